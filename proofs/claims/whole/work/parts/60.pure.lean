/-! a share is read: 1 it is read, -2, -3 as promise 12 has them; how many bits; the points -/
def rd (b : Nat → Int) (q0 : Nat) (A : Int) (last : Nat) : Nat → Nat → Nat → Int → (Nat → Int) → Int × Nat × (Nat → Int)
  | 0, t, _, _, pt => (-2, t, pt)
  | n + 1, t, s, R, pt =>
    if tkZ b (q0 + t) (A - t) R = -1 then (-3, t, pt)
    else if R - wgt (tkZ b (q0 + t) (A - t) R - 1) ≤ 0 then (1, t + tkU b (q0 + t) R, zu pt s (tkZ b (q0 + t) (A - t) R - 1))
    else if tkZ b (q0 + t) (A - t) R = 1 then
      (if (bz b q0 A last 256 (t + tkU b (q0 + t) R) (s + 1)).1 = -1 then (-3, t, pt)
       else if (last : Int) < (bz b q0 A last 256 (t + tkU b (q0 + t) R) (s + 1)).1 then (-2, t, pt)
       else rd b q0 A last n (bz b q0 A last 256 (t + tkU b (q0 + t) R) (s + 1)).2 (bz b q0 A last 256 (t + tkU b (q0 + t) R) (s + 1)).1.toNat (R - wgt (tkZ b (q0 + t) (A - t) R - 1)) (zu pt s (tkZ b (q0 + t) (A - t) R - 1)))
    else if last < s + 1 then (-2, t, pt) else rd b q0 A last n (t + tkU b (q0 + t) R) (s + 1) (R - wgt (tkZ b (q0 + t) (A - t) R - 1)) (zu pt s (tkZ b (q0 + t) (A - t) R - 1))
def rdR (b : Nat → Int) (q0 : Nat) (A : Int) (last : Nat) (T : Int × Nat × (Nat → Int)) (t s : Nat) (R : Int) (pt : Nat → Int) : Prop := ∃ n : Nat, 256 ≤ n + s ∧ rd b q0 A last n t s R pt = T
section RD
variable {b : Nat → Int} {q0 last t s : Nat} {A R z : Int} {T : Int × Nat × (Nat → Int)} {pt : Nat → Int}
theorem rdR_0 : rdR b q0 A last (rd b q0 A last 256 t s R pt) t s R pt := ⟨256, by omega, rfl⟩
theorem rdR_3 (h : rdR b q0 A last T t s R pt) (hs : s ≤ 255) (hz : z = tkZ b (q0 + t) (A - t) R) (h1 : z = -1) : T.1 = -3 := by
  obtain ⟨n, a, e⟩ := h
  cases n with
  | zero => omega
  | succ n =>
    rw [← e]
    show (if tkZ b (q0 + t) (A - t) R = -1 then (-3, t, pt) else _).1 = _
    rw [if_pos (hz.symm.trans h1)]
theorem rdR_ok (h : rdR b q0 A last T t s R pt) (hs : s ≤ 255) (hz : z = tkZ b (q0 + t) (A - t) R) (h1 : z ≠ -1) (h2 : R - wgt (z - 1) ≤ 0) : T = (1, t + tkU b (q0 + t) R, zu pt s (z - 1)) := by
  obtain ⟨n, a, e⟩ := h
  cases n with
  | zero => omega
  | succ n =>
    subst hz
    rw [← e]
    show (if tkZ b (q0 + t) (A - t) R = -1 then _ else _) = _
    rw [if_neg h1, if_pos h2]
theorem rdR_2 (h : rdR b q0 A last T t s R pt) (hs : s ≤ 255) (hz : z = tkZ b (q0 + t) (A - t) R) (h1 : z ≠ -1) (h2 : ¬ R - wgt (z - 1) ≤ 0) (h3 : z ≠ 1) (h4 : last < s + 1) : T.1 = -2 := by
  obtain ⟨n, a, e⟩ := h
  cases n with
  | zero => omega
  | succ n =>
    subst hz
    rw [← e]
    show Prod.fst (α := Int) (if tkZ b (q0 + t) (A - t) R = -1 then _ else _) = _
    rw [if_neg h1, if_neg h2, if_neg h3, if_pos h4]
theorem rdR_n (h : rdR b q0 A last T t s R pt) (hs : s ≤ 255) (hz : z = tkZ b (q0 + t) (A - t) R) (h1 : z ≠ -1) (h2 : ¬ R - wgt (z - 1) ≤ 0) (h3 : z ≠ 1) (h4 : ¬ last < s + 1) : rdR b q0 A last T (t + tkU b (q0 + t) R) (s + 1) (R - wgt (z - 1)) (zu pt s (z - 1)) := by
  obtain ⟨n, a, e⟩ := h
  cases n with
  | zero => omega
  | succ n =>
    subst hz
    refine ⟨n, by omega, ?_⟩
    rw [← e]
    show _ = (if tkZ b (q0 + t) (A - t) R = -1 then _ else _)
    rw [if_neg h1, if_neg h2, if_neg h3, if_neg h4]
theorem rdR_z {c : Int} {t2 : Nat} (h : rdR b q0 A last T t s R pt) (hs : s ≤ 255) (hz : z = tkZ b (q0 + t) (A - t) R) (h2 : ¬ R - wgt (z - 1) ≤ 0) (h3 : z = 1) (hc : bz b q0 A last 256 (t + tkU b (q0 + t) R) (s + 1) = (c, t2)) (hcs : c = -1 ∨ (s : Int) < c) : (c = -1 → T.1 = -3) ∧ ((last : Int) < c → T.1 = -2) ∧ (c ≠ -1 → ¬ (last : Int) < c → rdR b q0 A last T t2 c.toNat (R - wgt (z - 1)) (zu pt s (z - 1))) := by
  obtain ⟨n, a, e⟩ := h
  cases n with
  | zero => omega
  | succ n =>
    subst hz
    have key : rd b q0 A last (n + 1) t s R pt = (if c = -1 then (-3, t, pt) else if (last : Int) < c then (-2, t, pt) else rd b q0 A last n t2 c.toNat (R - wgt (tkZ b (q0 + t) (A - t) R - 1)) (zu pt s (tkZ b (q0 + t) (A - t) R - 1))) := by
      show (if tkZ b (q0 + t) (A - t) R = -1 then _ else _) = _
      rw [if_neg (by omega), if_neg h2, if_pos h3, hc]
    rw [key] at e
    refine ⟨fun q => by rw [← e, if_pos q], fun q => by rw [← e, if_neg (by omega), if_pos q], fun q1 q2 => ⟨n, by omega, ?_⟩⟩
    rw [← e, if_neg q1, if_neg q2]
end RD
theorem bz_ge {b : Nat → Int} {q0 last : Nat} {A : Int} : ∀ {n t s : Nat}, (bz b q0 A last n t s).1 = -1 ∨ (s : Int) ≤ (bz b q0 A last n t s).1
  | 0, t, s => Or.inr (Int.le_refl _)
  | n + 1, t, s => by
    show (if s ≤ last then (if A < (t : Int) + 2 then ((-1 : Int), t) else if nbI b (q0 + t) 2 < 3 then ((s : Int) + nbI b (q0 + t) 2, t + 2) else bz b q0 A last n (t + 2) (s + 3)) else ((s : Int), t)).1 = -1 ∨ (s : Int) ≤ (if s ≤ last then (if A < (t : Int) + 2 then ((-1 : Int), t) else if nbI b (q0 + t) 2 < 3 then ((s : Int) + nbI b (q0 + t) 2, t + 2) else bz b q0 A last n (t + 2) (s + 3)) else ((s : Int), t)).1
    have hnb := nbI_b b (q0 + t) 2
    have ih := bz_ge (b := b) (q0 := q0) (last := last) (A := A) (n := n) (t := t + 2) (s := s + 3)
    split
    · split
      · exact Or.inl rfl
      · split
        · exact Or.inr (by show (s : Int) ≤ (s : Int) + _; omega)
        · rcases ih with q | q
          · exact Or.inl q
          · exact Or.inr (by omega)
    · exact Or.inr (Int.le_refl _)

theorem bz_le {b : Nat → Int} {q0 last : Nat} {A : Int} : ∀ {n t s : Nat}, (bz b q0 A last n t s).1 ≤ (s : Int) + 3 * n + 3
  | 0, t, s => by show (s : Int) ≤ _; omega
  | n + 1, t, s => by
    have hnb := nbI_b b (q0 + t) 2
    have ih := bz_le (b := b) (q0 := q0) (last := last) (A := A) (n := n) (t := t + 2) (s := s + 3)
    show (if s ≤ last then (if A < (t : Int) + 2 then ((-1 : Int), t) else if nbI b (q0 + t) 2 < 3 then ((s : Int) + nbI b (q0 + t) 2, t + 2) else bz b q0 A last n (t + 2) (s + 3)) else ((s : Int), t)).1 ≤ _
    split
    · split
      · show (-1 : Int) ≤ _; omega
      · split
        · show (s : Int) + nbI b (q0 + t) 2 ≤ _; omega
        · omega
    · show (s : Int) ≤ _; omega
/-- the class's symbol in reading -/
def rdS (b : Nat → Int) (q0 : Nat) (A : Int) (y : Nat) (T : Int × Nat × (Nat → Int)) (t : Nat) (v R : Int) (pt : Nat → Int) : Prop := (v = -1 ∧ T.1 = -3) ∨ ((y : Int) < v ∧ T.1 = -2) ∨ ∃ s : Nat, v = (s : Int) ∧ s ≤ y ∧ rdR b q0 A y T t s R pt
section RDS
variable {b : Nat → Int} {q0 y t s : Nat} {A R z v : Int} {T : Int × Nat × (Nat → Int)} {pt : Nat → Int}
theorem rdS_in (h : rdS b q0 A y T t v R pt) (h0 : 0 ≤ v) (h1 : v ≤ y) : ∃ s : Nat, v = (s : Int) ∧ s ≤ y ∧ rdR b q0 A y T t s R pt := by
  rcases h with ⟨q, _⟩ | ⟨q, _⟩ | q
  · omega
  · omega
  · exact q
theorem rdS_neg (h : rdS b q0 A y T t v R pt) (h0 : v < 0) : T.1 = -3 := by
  rcases h with ⟨q, q2⟩ | ⟨q, _⟩ | ⟨s, q, _⟩
  · exact q2
  · omega
  · omega
theorem rdS_big (h : rdS b q0 A y T t v R pt) (h0 : (y : Int) < v) : T.1 = -2 := by
  rcases h with ⟨q, q2⟩ | ⟨q, q2⟩ | ⟨s, q, q2, _⟩
  · omega
  · exact q2
  · omega
theorem rdS_n (h : rdR b q0 A y T t s R pt) (hs : s ≤ 255) (hz : z = tkZ b (q0 + t) (A - t) R) (h1 : z ≠ -1) (h2 : ¬ R - wgt (z - 1) ≤ 0) (h3 : z ≠ 1) (hv : v = (s : Int)) : rdS b q0 A y T (t + tkU b (q0 + t) R) (v + 1) (R - wgt (z - 1)) (zu pt s (z - 1)) := by
  subst hv
  rcases (by omega : y < s + 1 ∨ ¬ y < s + 1) with q | q
  · exact Or.inr (Or.inl ⟨by omega, rdR_2 h hs hz h1 h2 h3 q⟩)
  · exact Or.inr (Or.inr ⟨s + 1, by omega, by omega, rdR_n h hs hz h1 h2 h3 q⟩)
theorem rdS_z {c : Int} {t2 : Nat} (h : rdR b q0 A y T t s R pt) (hs : s ≤ 255) (hz : z = tkZ b (q0 + t) (A - t) R) (h2 : ¬ R - wgt (z - 1) ≤ 0) (h3 : z = 1) (hc : (c, t2) = bz b q0 A y 256 (t + tkU b (q0 + t) R) (s + 1)) : rdS b q0 A y T t2 c (R - wgt (z - 1)) (zu pt s (z - 1)) := by
  have hg := bz_ge (b := b) (q0 := q0) (last := y) (A := A) (n := 256) (t := t + tkU b (q0 + t) R) (s := s + 1)
  rw [← hc] at hg
  have hg : c = -1 ∨ ((s + 1 : Nat) : Int) ≤ c := hg
  have k := rdR_z h hs hz h2 h3 hc.symm (by omega)
  rcases (by omega : c = -1 ∨ (y : Int) < c ∨ (c ≠ -1 ∧ ¬ (y : Int) < c)) with q | q | q
  · exact Or.inl ⟨q, k.1 q⟩
  · exact Or.inr (Or.inl ⟨q, k.2.1 q⟩)
  · exact Or.inr (Or.inr ⟨c.toNat, by omega, by omega, k.2.2 q.1 q.2⟩)
end RDS
theorem zu_cg {g g2 : Nat → Int} {s : Nat} {x : Int} (h : ∀ k, k < 256 → g k = g2 k) : ∀ k, k < 256 → zu g s x k = zu g2 s x k := by
  intro k hk
  by_cases e : k = s
  · rw [e, zu_s, zu_s]
  · rw [zu_n e, zu_n e]; exact h k hk
/-- a measure for the class's symbol -/
def rdm (v : Int) : Nat := if v < 0 then 0 else (2000 - v).toNat
theorem rdm_lt {v w : Int} (hv : 0 ≤ v ∧ v ≤ 255) (hw : w = -1 ∨ (v < w ∧ w < 2000)) : rdm w < rdm v := by
  unfold rdm
  rw [if_neg (show ¬ v < 0 by omega)]
  split <;> omega
def rdT (b : Nat → Int) (q0 : Nat) (A : Int) (y : Nat) : Int × Nat × (Nat → Int) := rd b q0 A y 256 4 0 (2 ^ (5 + nbI b q0 4).toNat) (fun _ => 0)
def rdP (b : Nat → Int) (q0 : Nat) (A x : Int) (y : Nat) (z t1 : Int) (f1 : Nat → Int) : Prop := (A < 4 ∧ z = -3) ∨ (4 ≤ A ∧ x < 5 + nbI b q0 4 ∧ z = -1) ∨ (4 ≤ A ∧ 5 + nbI b q0 4 ≤ x ∧ (((rdT b q0 A y).1 = 1 ∧ z = 5 + nbI b q0 4 ∧ t1 = ((rdT b q0 A y).2.1 : Int) ∧ t1 ≤ A ∧ ∀ k, k < 256 → f1 k = (rdT b q0 A y).2.2 k) ∨ ((rdT b q0 A y).1 = -2 ∧ z = -2) ∨ ((rdT b q0 A y).1 = -3 ∧ z = -3)))
theorem tkU_av {b : Nat → Int} {q : Nat} {av R z : Int} (hz : z = tkZ b q av R) (h : z ≠ -1) : (tkU b q R : Int) ≤ av := by
  unfold tkZ at hz
  unfold tkU
  split at hz
  · exact absurd hz h
  · split at hz
    · rename_i q1; rw [if_pos q1]; omega
    · rename_i q1
      rw [if_neg q1]
      split at hz
      · exact absurd hz h
      · omega
theorem tkZ_lo (b : Nat → Int) (q : Nat) (av : Int) {R : Int} (h1 : 1 ≤ R) (h2 : R ≤ 4096) : -1 ≤ tkZ b q av R ∧ tkZ b q av R ≤ 10000 := by
  have hf := num_facts h1 h2
  have hnb := nbI_b b q (numK R)
  have hct : (2 : Int) ^ numK R = numT R := rfl
  unfold tkZ
  split
  · omega
  · split
    · omega
    · split
      · omega
      · split <;> omega
theorem wgt_le {p R : Int} (h : -1 ≤ p) (hp : p ≤ R) (hR : 1 ≤ R) : wgt p ≤ R := by unfold wgt; split <;> omega
theorem tkZ_hi {b : Nat → Int} {q : Nat} {av R z : Int} (h1 : 1 ≤ R) (h2 : R ≤ 4096) (hz : z = tkZ b q av R) (hn : z ≠ -1) : 0 ≤ z ∧ z ≤ R + 1 := by
  have hf := num_facts h1 h2
  have hnb := nbI_b b q (numK R)
  have hct : (2 : Int) ^ numK R = numT R := rfl
  have hnm : numM R = 2 * numT R - 2 - R := rfl
  unfold tkZ at hz
  split at hz
  · exact absurd hz hn
  · split at hz
    · omega
    · split at hz
      · exact absurd hz hn
      · split at hz <;> omega
theorem cum_zu {pt : Nat → Int} {s : Nat} {x : Int} : cum (zu pt s x) (s + 1) = cum pt s + wgt x := by
  show cum (zu pt s x) s + wgt (zu pt s x s) = _
  rw [zu_s, cum_congr (fun k hk => zu_n (show k ≠ s by omega))]
theorem rd_sum {b : Nat → Int} {q0 y : Nat} {A P : Int} (hy : y ≤ 255) : ∀ {n t s : Nat} {R : Int} {pt : Nat → Int}, R = P - cum pt s → (∀ k, s ≤ k → pt k = 0) → (∀ k, -1 ≤ pt k ∧ pt k ≤ 65536) → 1 ≤ R → R ≤ 4096 → s ≤ 255 → (rd b q0 A y n t s R pt).1 = 1 → cum (rd b q0 A y n t s R pt).2.2 256 = P ∧ ∀ k, -1 ≤ (rd b q0 A y n t s R pt).2.2 k ∧ (rd b q0 A y n t s R pt).2.2 k ≤ 65536
  | 0, t, s, R, pt, _, _, _, _, _, _, h => absurd h (by show ¬ (-2 : Int) = 1; decide)
  | n + 1, t, s, R, pt, hR, hz0, hb, h1, h2, hs, h => by
    have hlo := tkZ_lo b (q0 + t) (A - t) h1 h2
    have hhi := fun hn => tkZ_hi (z := tkZ b (q0 + t) (A - t) R) h1 h2 rfl hn
    have hge := bz_ge (b := b) (q0 := q0) (last := y) (A := A) (n := 256) (t := t + tkU b (q0 + t) R) (s := s + 1)
    have key : rd b q0 A y (n + 1) t s R pt = (if tkZ b (q0 + t) (A - t) R = -1 then (-3, t, pt)
      else if R - wgt (tkZ b (q0 + t) (A - t) R - 1) ≤ 0 then (1, t + tkU b (q0 + t) R, zu pt s (tkZ b (q0 + t) (A - t) R - 1))
      else if tkZ b (q0 + t) (A - t) R = 1 then
        (if (bz b q0 A y 256 (t + tkU b (q0 + t) R) (s + 1)).1 = -1 then (-3, t, pt)
         else if (y : Int) < (bz b q0 A y 256 (t + tkU b (q0 + t) R) (s + 1)).1 then (-2, t, pt)
         else rd b q0 A y n (bz b q0 A y 256 (t + tkU b (q0 + t) R) (s + 1)).2 (bz b q0 A y 256 (t + tkU b (q0 + t) R) (s + 1)).1.toNat (R - wgt (tkZ b (q0 + t) (A - t) R - 1)) (zu pt s (tkZ b (q0 + t) (A - t) R - 1)))
      else if y < s + 1 then (-2, t, pt) else rd b q0 A y n (t + tkU b (q0 + t) R) (s + 1) (R - wgt (tkZ b (q0 + t) (A - t) R - 1)) (zu pt s (tkZ b (q0 + t) (A - t) R - 1))) := rfl
    generalize tkZ b (q0 + t) (A - t) R = z at key hlo hhi
    generalize bz b q0 A y 256 (t + tkU b (q0 + t) R) (s + 1) = C at key hge
    rw [key] at h ⊢
    by_cases c1 : z = -1
    · rw [if_pos c1] at h
      exact absurd h (by show ¬ (-3 : Int) = 1; decide)
    · have hzz := hhi c1
      have hwl := wgt_le (show -1 ≤ z - 1 by omega) (show z - 1 ≤ R by omega) h1
      have hwb := wgt_b (show -1 ≤ z - 1 ∧ z - 1 ≤ 65536 by omega)
      have hb2 : ∀ k, -1 ≤ zu pt s (z - 1) k ∧ zu pt s (z - 1) k ≤ 65536 := fun k => by
        by_cases e : k = s
        · rw [e, zu_s]; omega
        · rw [zu_n e]; exact hb k
      have hz2 : ∀ k, s + 1 ≤ k → zu pt s (z - 1) k = 0 := fun k hk => by rw [zu_n (by omega)]; exact hz0 k (by omega)
      have hcu := cum_zu (pt := pt) (s := s) (x := z - 1)
      rw [if_neg c1] at h ⊢
      by_cases c2 : R - wgt (z - 1) ≤ 0
      · rw [if_pos c2]
        refine ⟨?_, hb2⟩
        show cum (zu pt s (z - 1)) 256 = P
        rw [cum_zero (a := s + 1) (b := 256) (by omega) (fun k q1 _ => hz2 k q1), hcu]
        omega
      · rw [if_neg c2] at h ⊢
        by_cases c3 : z = 1
        · rw [if_pos c3] at h ⊢
          by_cases c4 : C.1 = -1
          · rw [if_pos c4] at h
            exact absurd h (by show ¬ (-3 : Int) = 1; decide)
          · rw [if_neg c4] at h ⊢
            by_cases c5 : (y : Int) < C.1
            · rw [if_pos c5] at h
              exact absurd h (by show ¬ (-2 : Int) = 1; decide)
            · rw [if_neg c5] at h ⊢
              refine rd_sum hy ?_ (fun k hk => hz2 k (by omega)) hb2 (by omega) (by omega) (by omega) h
              rw [cum_zero (a := s + 1) (b := C.1.toNat) (by omega) (fun k q1 _ => hz2 k q1), hcu]
              omega
        · rw [if_neg c3] at h ⊢
          by_cases c4 : y < s + 1
          · rw [if_pos c4] at h
            exact absurd h (by show ¬ (-2 : Int) = 1; decide)
          · rw [if_neg c4] at h ⊢
            exact rd_sum hy (by rw [hcu]; omega) hz2 hb2 (by omega) (by omega) (by omega) h
theorem cum_0 : ∀ n : Nat, cum (fun _ => 0) n = 0
  | 0 => rfl
  | n + 1 => by
    show cum (fun _ => 0) n + wgt 0 = 0
    rw [cum_0 n]
    rfl
theorem rdT_ok {b : Nat → Int} {q0 y : Nat} {A : Int} (hy : y ≤ 255) (ho : 5 ≤ 5 + nbI b q0 4 ∧ 5 + nbI b q0 4 ≤ 12) (h : (rdT b q0 A y).1 = 1) : cum (rdT b q0 A y).2.2 256 = 2 ^ (5 + nbI b q0 4).toNat ∧ ∀ k, -1 ≤ (rdT b q0 A y).2.2 k ∧ (rdT b q0 A y).2.2 k ≤ 65536 := by
  have hp := p2_le (show (5 + nbI b q0 4).toNat ≤ 12 by omega)
  have hp0 := p2_pos (5 + nbI b q0 4).toNat
  exact rd_sum hy (by show _ = _ - 0; omega) (fun _ _ => rfl) (fun _ => ⟨by decide, by decide⟩) (by omega) (by omega) (by omega) h
/-- reading is refused with z; reading answers an order -/
def rdQ (b : Nat → Int) (q0 : Nat) (A x : Int) (y : Nat) (z : Int) : Prop := (A < 4 ∧ z = -3) ∨ (4 ≤ A ∧ x < 5 + nbI b q0 4 ∧ z = -1) ∨ (4 ≤ A ∧ 5 + nbI b q0 4 ≤ x ∧ (((rdT b q0 A y).1 = -2 ∧ z = -2) ∨ ((rdT b q0 A y).1 = -3 ∧ z = -3)))
def rdG (b : Nat → Int) (q0 : Nat) (A x : Int) (y : Nat) (z : Int) : Prop := 4 ≤ A ∧ 5 + nbI b q0 4 ≤ x ∧ (rdT b q0 A y).1 = 1 ∧ z = 5 + nbI b q0 4
theorem rdQ_neg {b : Nat → Int} {q0 y : Nat} {A x z : Int} (h : rdQ b q0 A x y z) : z < 0 ∧ -3 ≤ z := by
  rcases h with h | h | ⟨_, _, h | h⟩ <;> omega
theorem rdP_cases {b : Nat → Int} {q0 y : Nat} {A x z t1 : Int} {f1 : Nat → Int} (h : rdP b q0 A x y z t1 f1) : (rdQ b q0 A x y z) ∨ (rdG b q0 A x y z ∧ t1 = ((rdT b q0 A y).2.1 : Int) ∧ t1 ≤ A ∧ ∀ k, k < 256 → f1 k = (rdT b q0 A y).2.2 k) := by
  rcases h with h | h | ⟨h1, h2, h | h | h⟩
  · exact Or.inl (Or.inl h)
  · exact Or.inl (Or.inr (Or.inl h))
  · exact Or.inr ⟨⟨h1, h2, h.1, h.2.1⟩, h.2.2.1, h.2.2.2.1, h.2.2.2.2⟩
  · exact Or.inl (Or.inr (Or.inr ⟨h1, h2, Or.inl h⟩))
  · exact Or.inl (Or.inr (Or.inr ⟨h1, h2, Or.inr h⟩))
