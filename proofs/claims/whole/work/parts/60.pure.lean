/-! a share is read: 1 it is read, -2, -3 as promise 12 has them; how many bits; the points -/
def rd (b : Nat → Int) (q0 : Nat) (A : Int) (last : Nat) : Nat → Nat → Nat → Int → (Nat → Int) → Int × Nat × (Nat → Int)
  | 0, t, _, _, pt => (-2, t, pt)
  | n + 1, t, s, R, pt =>
    if tkZ b (q0 + t) (A - t) R = -1 then (-3, t, pt)
    else if R - wgt (tkZ b (q0 + t) (A - t) R - 1) ≤ 0 then (1, t + tkU b (q0 + t) R, zu pt s (tkZ b (q0 + t) (A - t) R - 1))
    else if tkZ b (q0 + t) (A - t) R = 1 then
      (if (bz b q0 A last 256 (t + tkU b (q0 + t) R) (s + 1)).1 = -1 then (-3, t, pt)
       else if (last : Int) < (bz b q0 A last 256 (t + tkU b (q0 + t) R) (s + 1)).1 then (-2, t, pt)
       else rd b q0 A last n (bz b q0 A last 256 (t + tkU b (q0 + t) R) (s + 1)).2 (bz b q0 A last 256 (t + tkU b (q0 + t) R) (s + 1)).1.toNat (R - wgt (tkZ b (q0 + t) (A - t) R - 1)) (zu pt s (tkZ b (q0 + t) (A - t) R - 1)))
    else if last < s + 1 then (-2, t, pt) else rd b q0 A last n (t + tkU b (q0 + t) R) (s + 1) (R - wgt (tkZ b (q0 + t) (A - t) R - 1)) (zu pt s (tkZ b (q0 + t) (A - t) R - 1))
def rdR (b : Nat → Int) (q0 : Nat) (A : Int) (last : Nat) (T : Int × Nat × (Nat → Int)) (t s : Nat) (R : Int) (pt : Nat → Int) : Prop := ∃ n : Nat, 256 ≤ n + s ∧ rd b q0 A last n t s R pt = T
section RD
variable {b : Nat → Int} {q0 last t s : Nat} {A R z : Int} {T : Int × Nat × (Nat → Int)} {pt : Nat → Int}
theorem rdR_0 : rdR b q0 A last (rd b q0 A last 256 t s R pt) t s R pt := ⟨256, by omega, rfl⟩
theorem rdR_3 (h : rdR b q0 A last T t s R pt) (hs : s ≤ 255) (hz : z = tkZ b (q0 + t) (A - t) R) (h1 : z = -1) : T.1 = -3 := by
  obtain ⟨n, a, e⟩ := h
  cases n with
  | zero => omega
  | succ n =>
    rw [← e]
    show (if tkZ b (q0 + t) (A - t) R = -1 then (-3, t, pt) else _).1 = _
    rw [if_pos (hz.symm.trans h1)]
theorem rdR_ok (h : rdR b q0 A last T t s R pt) (hs : s ≤ 255) (hz : z = tkZ b (q0 + t) (A - t) R) (h1 : z ≠ -1) (h2 : R - wgt (z - 1) ≤ 0) : T = (1, t + tkU b (q0 + t) R, zu pt s (z - 1)) := by
  obtain ⟨n, a, e⟩ := h
  cases n with
  | zero => omega
  | succ n =>
    subst hz
    rw [← e]
    show (if tkZ b (q0 + t) (A - t) R = -1 then _ else _) = _
    rw [if_neg h1, if_pos h2]
theorem rdR_2 (h : rdR b q0 A last T t s R pt) (hs : s ≤ 255) (hz : z = tkZ b (q0 + t) (A - t) R) (h1 : z ≠ -1) (h2 : ¬ R - wgt (z - 1) ≤ 0) (h3 : z ≠ 1) (h4 : last < s + 1) : T.1 = -2 := by
  obtain ⟨n, a, e⟩ := h
  cases n with
  | zero => omega
  | succ n =>
    subst hz
    rw [← e]
    show Prod.fst (α := Int) (if tkZ b (q0 + t) (A - t) R = -1 then _ else _) = _
    rw [if_neg h1, if_neg h2, if_neg h3, if_pos h4]
theorem rdR_n (h : rdR b q0 A last T t s R pt) (hs : s ≤ 255) (hz : z = tkZ b (q0 + t) (A - t) R) (h1 : z ≠ -1) (h2 : ¬ R - wgt (z - 1) ≤ 0) (h3 : z ≠ 1) (h4 : ¬ last < s + 1) : rdR b q0 A last T (t + tkU b (q0 + t) R) (s + 1) (R - wgt (z - 1)) (zu pt s (z - 1)) := by
  obtain ⟨n, a, e⟩ := h
  cases n with
  | zero => omega
  | succ n =>
    subst hz
    refine ⟨n, by omega, ?_⟩
    rw [← e]
    show _ = (if tkZ b (q0 + t) (A - t) R = -1 then _ else _)
    rw [if_neg h1, if_neg h2, if_neg h3, if_neg h4]
theorem rdR_z {c : Int} {t2 : Nat} (h : rdR b q0 A last T t s R pt) (hs : s ≤ 255) (hz : z = tkZ b (q0 + t) (A - t) R) (h2 : ¬ R - wgt (z - 1) ≤ 0) (h3 : z = 1) (hc : bz b q0 A last 256 (t + tkU b (q0 + t) R) (s + 1) = (c, t2)) (hcs : c = -1 ∨ (s : Int) < c) : (c = -1 → T.1 = -3) ∧ ((last : Int) < c → T.1 = -2) ∧ (c ≠ -1 → ¬ (last : Int) < c → rdR b q0 A last T t2 c.toNat (R - wgt (z - 1)) (zu pt s (z - 1))) := by
  obtain ⟨n, a, e⟩ := h
  cases n with
  | zero => omega
  | succ n =>
    subst hz
    have key : rd b q0 A last (n + 1) t s R pt = (if c = -1 then (-3, t, pt) else if (last : Int) < c then (-2, t, pt) else rd b q0 A last n t2 c.toNat (R - wgt (tkZ b (q0 + t) (A - t) R - 1)) (zu pt s (tkZ b (q0 + t) (A - t) R - 1))) := by
      show (if tkZ b (q0 + t) (A - t) R = -1 then _ else _) = _
      rw [if_neg (by omega), if_neg h2, if_pos h3, hc]
    rw [key] at e
    refine ⟨fun q => by rw [← e, if_pos q], fun q => by rw [← e, if_neg (by omega), if_pos q], fun q1 q2 => ⟨n, by omega, ?_⟩⟩
    rw [← e, if_neg q1, if_neg q2]
end RD
theorem bz_ge {b : Nat → Int} {q0 last : Nat} {A : Int} : ∀ {n t s : Nat}, (bz b q0 A last n t s).1 = -1 ∨ (s : Int) ≤ (bz b q0 A last n t s).1
  | 0, t, s => Or.inr (Int.le_refl _)
  | n + 1, t, s => by
    show (if s ≤ last then (if A < (t : Int) + 2 then ((-1 : Int), t) else if nbI b (q0 + t) 2 < 3 then ((s : Int) + nbI b (q0 + t) 2, t + 2) else bz b q0 A last n (t + 2) (s + 3)) else ((s : Int), t)).1 = -1 ∨ (s : Int) ≤ (if s ≤ last then (if A < (t : Int) + 2 then ((-1 : Int), t) else if nbI b (q0 + t) 2 < 3 then ((s : Int) + nbI b (q0 + t) 2, t + 2) else bz b q0 A last n (t + 2) (s + 3)) else ((s : Int), t)).1
    have hnb := nbI_b b (q0 + t) 2
    have ih := bz_ge (b := b) (q0 := q0) (last := last) (A := A) (n := n) (t := t + 2) (s := s + 3)
    split
    · split
      · exact Or.inl rfl
      · split
        · exact Or.inr (by show (s : Int) ≤ (s : Int) + _; omega)
        · rcases ih with q | q
          · exact Or.inl q
          · exact Or.inr (by omega)
    · exact Or.inr (Int.le_refl _)

theorem bz_le {b : Nat → Int} {q0 last : Nat} {A : Int} : ∀ {n t s : Nat}, (bz b q0 A last n t s).1 ≤ (s : Int) + 3 * n + 3
  | 0, t, s => by show (s : Int) ≤ _; omega
  | n + 1, t, s => by
    have hnb := nbI_b b (q0 + t) 2
    have ih := bz_le (b := b) (q0 := q0) (last := last) (A := A) (n := n) (t := t + 2) (s := s + 3)
    show (if s ≤ last then (if A < (t : Int) + 2 then ((-1 : Int), t) else if nbI b (q0 + t) 2 < 3 then ((s : Int) + nbI b (q0 + t) 2, t + 2) else bz b q0 A last n (t + 2) (s + 3)) else ((s : Int), t)).1 ≤ _
    split
    · split
      · show (-1 : Int) ≤ _; omega
      · split
        · show (s : Int) + nbI b (q0 + t) 2 ≤ _; omega
        · omega
    · show (s : Int) ≤ _; omega
/-- the class's symbol in reading -/
def rdS (b : Nat → Int) (q0 : Nat) (A : Int) (y : Nat) (T : Int × Nat × (Nat → Int)) (t : Nat) (v R : Int) (pt : Nat → Int) : Prop := (v = -1 ∧ T.1 = -3) ∨ ((y : Int) < v ∧ T.1 = -2) ∨ ∃ s : Nat, v = (s : Int) ∧ s ≤ y ∧ rdR b q0 A y T t s R pt
section RDS
variable {b : Nat → Int} {q0 y t s : Nat} {A R z v : Int} {T : Int × Nat × (Nat → Int)} {pt : Nat → Int}
theorem rdS_in (h : rdS b q0 A y T t v R pt) (h0 : 0 ≤ v) (h1 : v ≤ y) : ∃ s : Nat, v = (s : Int) ∧ s ≤ y ∧ rdR b q0 A y T t s R pt := by
  rcases h with ⟨q, _⟩ | ⟨q, _⟩ | q
  · omega
  · omega
  · exact q
theorem rdS_neg (h : rdS b q0 A y T t v R pt) (h0 : v < 0) : T.1 = -3 := by
  rcases h with ⟨q, q2⟩ | ⟨q, _⟩ | ⟨s, q, _⟩
  · exact q2
  · omega
  · omega
theorem rdS_big (h : rdS b q0 A y T t v R pt) (h0 : (y : Int) < v) : T.1 = -2 := by
  rcases h with ⟨q, q2⟩ | ⟨q, q2⟩ | ⟨s, q, q2, _⟩
  · omega
  · exact q2
  · omega
theorem rdS_n (h : rdR b q0 A y T t s R pt) (hs : s ≤ 255) (hz : z = tkZ b (q0 + t) (A - t) R) (h1 : z ≠ -1) (h2 : ¬ R - wgt (z - 1) ≤ 0) (h3 : z ≠ 1) (hv : v = (s : Int)) : rdS b q0 A y T (t + tkU b (q0 + t) R) (v + 1) (R - wgt (z - 1)) (zu pt s (z - 1)) := by
  subst hv
  rcases (by omega : y < s + 1 ∨ ¬ y < s + 1) with q | q
  · exact Or.inr (Or.inl ⟨by omega, rdR_2 h hs hz h1 h2 h3 q⟩)
  · exact Or.inr (Or.inr ⟨s + 1, by omega, by omega, rdR_n h hs hz h1 h2 h3 q⟩)
theorem rdS_z {c : Int} {t2 : Nat} (h : rdR b q0 A y T t s R pt) (hs : s ≤ 255) (hz : z = tkZ b (q0 + t) (A - t) R) (h2 : ¬ R - wgt (z - 1) ≤ 0) (h3 : z = 1) (hc : (c, t2) = bz b q0 A y 256 (t + tkU b (q0 + t) R) (s + 1)) : rdS b q0 A y T t2 c (R - wgt (z - 1)) (zu pt s (z - 1)) := by
  have hg := bz_ge (b := b) (q0 := q0) (last := y) (A := A) (n := 256) (t := t + tkU b (q0 + t) R) (s := s + 1)
  rw [← hc] at hg
  have hg : c = -1 ∨ ((s + 1 : Nat) : Int) ≤ c := hg
  have k := rdR_z h hs hz h2 h3 hc.symm (by omega)
  rcases (by omega : c = -1 ∨ (y : Int) < c ∨ (c ≠ -1 ∧ ¬ (y : Int) < c)) with q | q | q
  · exact Or.inl ⟨q, k.1 q⟩
  · exact Or.inr (Or.inl ⟨q, k.2.1 q⟩)
  · exact Or.inr (Or.inr ⟨c.toNat, by omega, by omega, k.2.2 q.1 q.2⟩)
end RDS
theorem zu_cg {g g2 : Nat → Int} {s : Nat} {x : Int} (h : ∀ k, k < 256 → g k = g2 k) : ∀ k, k < 256 → zu g s x k = zu g2 s x k := by
  intro k hk
  by_cases e : k = s
  · rw [e, zu_s, zu_s]
  · rw [zu_n e, zu_n e]; exact h k hk
/-- a measure for the class's symbol -/
def rdm (v : Int) : Nat := if v < 0 then 0 else (2000 - v).toNat
theorem rdm_lt {v w : Int} (hv : 0 ≤ v ∧ v ≤ 255) (hw : w = -1 ∨ (v < w ∧ w < 2000)) : rdm w < rdm v := by
  unfold rdm
  rw [if_neg (show ¬ v < 0 by omega)]
  split <;> omega
def rdT (b : Nat → Int) (q0 : Nat) (A : Int) (y : Nat) : Int × Nat × (Nat → Int) := rd b q0 A y 256 4 0 (2 ^ (5 + nbI b q0 4).toNat) (fun _ => 0)
def rdP (b : Nat → Int) (q0 : Nat) (A x : Int) (y : Nat) (z t1 : Int) (f1 : Nat → Int) : Prop := (A < 4 ∧ z = -3) ∨ (4 ≤ A ∧ x < 5 + nbI b q0 4 ∧ z = -1) ∨ (4 ≤ A ∧ 5 + nbI b q0 4 ≤ x ∧ (((rdT b q0 A y).1 = 1 ∧ z = 5 + nbI b q0 4 ∧ t1 = ((rdT b q0 A y).2.1 : Int) ∧ t1 ≤ A ∧ ∀ k, k < 256 → f1 k = (rdT b q0 A y).2.2 k) ∨ ((rdT b q0 A y).1 = -2 ∧ z = -2) ∨ ((rdT b q0 A y).1 = -3 ∧ z = -3)))
theorem tkU_av {b : Nat → Int} {q : Nat} {av R z : Int} (hz : z = tkZ b q av R) (h : z ≠ -1) : (tkU b q R : Int) ≤ av := by
  unfold tkZ at hz
  unfold tkU
  split at hz
  · exact absurd hz h
  · split at hz
    · rename_i q1; rw [if_pos q1]; omega
    · rename_i q1
      rw [if_neg q1]
      split at hz
      · exact absurd hz h
      · omega
theorem tkZ_lo (b : Nat → Int) (q : Nat) (av : Int) {R : Int} (h1 : 1 ≤ R) (h2 : R ≤ 4096) : -1 ≤ tkZ b q av R ∧ tkZ b q av R ≤ 10000 := by
  have hf := num_facts h1 h2
  have hnb := nbI_b b q (numK R)
  have hct : (2 : Int) ^ numK R = numT R := rfl
  unfold tkZ
  split
  · omega
  · split
    · omega
    · split
      · omega
      · split <;> omega
theorem wgt_le {p R : Int} (h : -1 ≤ p) (hp : p ≤ R) (hR : 1 ≤ R) : wgt p ≤ R := by unfold wgt; split <;> omega
