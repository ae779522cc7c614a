/-! sums, and counting by another order -/
def sm (f : Nat → Int) : Nat → Int
  | 0 => 0
  | n + 1 => sm f n + f n
theorem sm_congr {f g : Nat → Int} : ∀ {n : Nat}, (∀ k, k < n → f k = g k) → sm f n = sm g n
  | 0, _ => rfl
  | n + 1, h => by
    show sm f n + f n = sm g n + g n
    rw [sm_congr (fun k hk => h k (by omega)), h n (by omega)]
theorem sm_add (f g : Nat → Int) : ∀ n : Nat, sm (fun k => f k + g k) n = sm f n + sm g n
  | 0 => rfl
  | n + 1 => by
    show sm (fun k => f k + g k) n + (f n + g n) = sm f n + f n + (sm g n + g n)
    rw [sm_add f g n]
    omega
theorem sm_zero {f : Nat → Int} : ∀ {n : Nat}, (∀ k, k < n → f k = 0) → sm f n = 0
  | 0, _ => rfl
  | n + 1, h => by
    show sm f n + f n = 0
    rw [sm_zero (fun k hk => h k (by omega)), h n (by omega)]
    rfl
theorem sm_one {f : Nat → Int} {a : Nat} : ∀ {n : Nat}, a < n → sm (fun k => if k = a then f k else 0) n = f a
  | 0, h => absurd h (by omega)
  | n + 1, h => by
    show sm (fun k => if k = a then f k else 0) n + (if n = a then f n else 0) = f a
    by_cases e : n = a
    · rw [if_pos e, sm_zero (fun k hk => if_neg (by omega)), e]
      omega
    · rw [if_neg e, sm_one (by omega)]
      omega
theorem sm_swap (F : Nat → Nat → Int) (n : Nat) : ∀ m : Nat, sm (fun j => sm (fun c => F j c) n) m = sm (fun c => sm (fun j => F j c) m) n
  | 0 => (sm_zero (fun _ _ => rfl)).symm
  | m + 1 => by
    show sm (fun j => sm (fun c => F j c) n) m + sm (fun c => F m c) n = _
    rw [sm_swap F n m, ← sm_add]
    rfl
theorem sm_perm {si ta : Nat → Nat} {N : Nat} (h1 : ∀ j, j < N → si j < N) (h2 : ∀ c, c < N → ta c < N) (h3 : ∀ c, c < N → si (ta c) = c) (h4 : ∀ j, j < N → ta (si j) = j) (f : Nat → Int) : sm (fun j => f (si j)) N = sm f N := by
  have e1 : sm (fun j => f (si j)) N = sm (fun j => sm (fun c => if c = si j then f c else 0) N) N := sm_congr (fun j hj => (sm_one (h1 j hj)).symm)
  rw [e1, sm_swap]
  refine sm_congr (fun c hc => ?_)
  have e2 : sm (fun j => if c = si j then f c else 0) N = sm (fun j => if j = ta c then (fun _ => f c) j else 0) N := sm_congr (fun j hj => by
    by_cases e : c = si j
    · rw [if_pos e, if_pos (by rw [e, h4 j hj])]
    · rw [if_neg e, if_neg (fun q => e (by rw [q, h3 c hc]))])
  rw [e2, sm_one (f := fun _ => f c) (h2 c hc)]
theorem cntS_sm (g : Nat → Int) (v : Int) : ∀ n : Nat, cntS g v n = sm (fun k => if g k = v then 1 else 0) n
  | 0 => rfl
  | n + 1 => by
    show cntS g v n + (if g n = v then 1 else 0) = sm (fun k => if g k = v then 1 else 0) n + (if g n = v then 1 else 0)
    rw [cntS_sm g v n]
/-! the steps over the cells come to each cell once -/
def inv_ (o : Nat) : Nat := match o with
  | 5 => 7 | 6 => 3 | 7 => 91 | 8 => 11 | 9 => 363 | 10 => 43 | 11 => 1451 | _ => 171
theorem inv_ok : ∀ o : Fin 13, 5 ≤ (o : Nat) → (inv_ o * stp o) % 2 ^ (o : Nat) = 1 := by decide +kernel
theorem cel_inv {o c : Nat} (h5 : 5 ≤ o ∧ o ≤ 12) (hc : c < 2 ^ o) : cel o (c * inv_ o % 2 ^ o) = c := by
  have h := inv_ok ⟨o, by omega⟩ h5.1
  unfold cel
  rw [Nat.mod_mul_mod, Nat.mul_assoc, Nat.mul_mod, show inv_ o * stp o % 2 ^ o = 1 from h, Nat.mul_one, Nat.mod_mod, Nat.mod_eq_of_lt hc]
theorem inv_cel {o j : Nat} (h5 : 5 ≤ o ∧ o ≤ 12) (hj : j < 2 ^ o) : cel o j * inv_ o % 2 ^ o = j := by
  have h := inv_ok ⟨o, by omega⟩ h5.1
  unfold cel
  rw [Nat.mod_mul_mod, Nat.mul_assoc, Nat.mul_comm (stp o), Nat.mul_mod, show inv_ o * stp o % 2 ^ o = 1 from h, Nat.mul_one, Nat.mod_mod, Nat.mod_eq_of_lt hj]
theorem cel_inj {o i j : Nat} (h5 : 5 ≤ o ∧ o ≤ 12) (hi : i < 2 ^ o) (hj : j < 2 ^ o) (h : cel o i = cel o j) : i = j := by
  rw [← inv_cel h5 hi, ← inv_cel h5 hj, h]
theorem cel_sum {o : Nat} (h5 : 5 ≤ o ∧ o ≤ 12) (f : Nat → Int) : sm (fun j => f (cel o j)) (2 ^ o) = sm f (2 ^ o) :=
  sm_perm (ta := fun c => c * inv_ o % 2 ^ o) (fun j _ => cel_lt o j) (fun c _ => Nat.mod_lt _ (Nat.pow_pos (by decide))) (fun c hc => cel_inv h5 hc) (fun j hj => inv_cel h5 hj) f
/-! how many cells each symbol gets -/
def pos (x : Int) : Int := if 0 < x then x else 0
theorem pos_0 (x : Int) : 0 ≤ pos x := by unfold pos; split <;> omega
theorem pos_p {x : Int} (h : 0 ≤ x) : pos x = x := by unfold pos; split <;> omega
theorem pos_n {x : Int} (h : x ≤ 0) : pos x = 0 := by unfold pos; split <;> omega
def cumP (pt : Nat → Int) : Nat → Int
  | 0 => 0
  | n + 1 => cumP pt n + pos (pt n)
theorem cumP_mono {pt : Nat → Int} {a : Nat} : ∀ {b : Nat}, a ≤ b → cumP pt a ≤ cumP pt b
  | 0, h => by rw [show a = 0 by omega]; exact Int.le_refl _
  | b + 1, h => by
    by_cases e : a = b + 1
    · rw [e]; exact Int.le_refl _
    · have h1 := cumP_mono (pt := pt) (a := a) (b := b) (by omega)
      have h2 := pos_0 (pt b)
      show _ ≤ cumP pt b + pos (pt b)
      omega
theorem cumP_flat {pt : Nat → Int} {a : Nat} : ∀ {b : Nat}, a ≤ b → (∀ v, a ≤ v → v < b → pt v ≤ 0) → cumP pt b = cumP pt a
  | 0, h, _ => by rw [show a = 0 by omega]
  | b + 1, h, hz => by
    by_cases e : a = b + 1
    · rw [e]
    · show cumP pt b + pos (pt b) = _
      rw [pos_n (hz b (by omega) (by omega)), cumP_flat (by omega) (fun v q1 q2 => hz v q1 (by omega)), Int.add_zero]
theorem adv_spec {pt : Nat → Int} : ∀ (n s : Nat) (l : Int), s ≤ 255 → 256 ≤ n + s → (s ≤ (adv pt n s l).1 ∧ (adv pt n s l).1 ≤ 255) ∧ ((adv pt n s l) = (s, l) ∨ (l ≤ 0 ∧ s < (adv pt n s l).1 ∧ (adv pt n s l).2 = pt (adv pt n s l).1 ∧ ∀ v, s < v → v < (adv pt n s l).1 → pt v ≤ 0)) ∧ (0 < (adv pt n s l).2 ∨ (adv pt n s l).1 = 255)
  | 0, s, l, h1, h2 => absurd h2 (by omega)
  | n + 1, s, l, h1, h2 => by
    by_cases e : l ≤ 0 ∧ s < 255
    · have ea : adv pt (n + 1) s l = adv pt n (s + 1) (pt (s + 1)) := if_pos e
      have ih := adv_spec (pt := pt) n (s + 1) (pt (s + 1)) (by omega) (by omega)
      rw [ea]
      refine ⟨⟨by omega, ih.1.2⟩, Or.inr ⟨e.1, by omega, ?_, ?_⟩, ih.2.2⟩
      · rcases ih.2.1 with q | q
        · rw [q]
        · exact q.2.2.1
      · intro v q1 q2
        rcases ih.2.1 with q | q
        · rw [q] at q2
          exact absurd q2 (by show ¬ v < s + 1; omega)
        · by_cases ev : v = s + 1
          · rw [ev]; exact q.1
          · exact q.2.2.2 v (by omega) q2
    · have ea : adv pt (n + 1) s l = (s, l) := if_neg e
      rw [ea]
      refine ⟨⟨Nat.le_refl s, h1⟩, Or.inl rfl, ?_⟩
      show 0 < l ∨ s = 255
      omega
/-- the symbol that the k-th step would give -/
def asg (pt : Nat → Int) (o : Nat) (e : Int) (t : Nat → Int) (k : Nat) : Nat := (adv pt 256 (sprd pt o e t k).2.1 (sprd pt o e t k).2.2).1
def Vn (o : Nat) (e : Int) (k : Nat) : Int := sm (fun j => if (cel o j : Int) < e then 1 else 0) k
def Wn (pt : Nat → Int) (o : Nat) (e : Int) (t : Nat → Int) (v k : Nat) : Int := sm (fun j => if (cel o j : Int) < e ∧ asg pt o e t j = v then 1 else 0) k
theorem Vn_mono {o : Nat} {e : Int} {a : Nat} : ∀ {b : Nat}, a ≤ b → Vn o e a ≤ Vn o e b
  | 0, h => by rw [show a = 0 by omega]; exact Int.le_refl _
  | b + 1, h => by
    by_cases q : a = b + 1
    · rw [q]; exact Int.le_refl _
    · have h1 := Vn_mono (o := o) (e := e) (a := a) (b := b) (by omega)
      show _ ≤ Vn o e b + (if (cel o b : Int) < e then 1 else 0)
      split <;> omega
def sI (pt : Nat → Int) (o : Nat) (e : Int) (t : Nat → Int) (k s : Nat) (l : Int) : Prop := s ≤ 255 ∧ cumP pt s + pos (pt s) - pos l = Vn o e k ∧ ∀ v, v < 256 → Wn pt o e t v k = if v < s then pos (pt v) else if v = s then pos (pt v) - pos l else 0
theorem sI_0 {pt t : Nat → Int} {o : Nat} {e : Int} : sI pt o e t 0 0 (pt 0) := by
  refine ⟨by omega, ?_, fun v hv => ?_⟩
  · show (0 : Int) + pos (pt 0) - pos (pt 0) = 0
    omega
  · show (0 : Int) = _
    rw [if_neg (by omega)]
    by_cases q : v = 0
    · rw [if_pos q, q]; omega
    · rw [if_neg q]
theorem sI_s {pt t : Nat → Int} {o k s : Nat} {e l : Int} (he : cumP pt 256 = e) (hV : (cel o k : Int) < e → Vn o e k < e) (hq : (sprd pt o e t k).2 = (s, l)) (h : sI pt o e t k s l) : sI pt o e t (k + 1) (sprd pt o e t (k + 1)).2.1 (sprd pt o e t (k + 1)).2.2 := by
  obtain ⟨h1, h2, h3⟩ := h
  by_cases hl : (cel o k : Int) < e
  · have hs := sprd_s (pt := pt) (t := t) (o := o) (k := k) (e := e) (t2 := (sprd pt o e t k).1) (s := s) (l := l) (s2 := (adv pt 256 s l).1) (l2 := (adv pt 256 s l).2) (by rw [← hq]) hl rfl
    rw [hs]
    show sI pt o e t (k + 1) (adv pt 256 s l).1 ((adv pt 256 s l).2 - 1)
    have ha := adv_spec (pt := pt) 256 s l h1 (by omega)
    have hasg : asg pt o e t k = (adv pt 256 s l).1 := by unfold asg; rw [hq]
    have hVl := hV hl
    have hVs : Vn o e (k + 1) = Vn o e k + 1 := by
      show Vn o e k + (if (cel o k : Int) < e then 1 else 0) = _
      rw [if_pos hl]
    have hWs : ∀ v, Wn pt o e t v (k + 1) = Wn pt o e t v k + (if (adv pt 256 s l).1 = v then 1 else 0) := by
      intro v
      show Wn pt o e t v k + (if (cel o k : Int) < e ∧ asg pt o e t k = v then 1 else 0) = _
      rw [hasg]
      by_cases q : (adv pt 256 s l).1 = v
      · rw [if_pos ⟨hl, q⟩, if_pos q]
      · rw [if_neg (fun z => q z.2), if_neg q]
    generalize adv pt 256 s l = T at ha hWs
    obtain ⟨s1, l1⟩ := T
    simp only at ha hWs ⊢
    obtain ⟨⟨a1, a2⟩, a3, a4⟩ := ha
    have key : cumP pt s1 + pos (pt s1) - pos l1 = Vn o e k ∧ 0 < l1 := by
      rcases a3 with q | ⟨q1, q2, q3, q4⟩
      · have q5 : s1 = s := congrArg Prod.fst q
        have q6 : l1 = l := congrArg Prod.snd q
        subst q5; subst q6
        refine ⟨h2, ?_⟩
        rcases a4 with z | z
        · exact z
        · subst z
          rcases (by omega : 0 < l1 ∨ l1 ≤ 0) with w | w
          · exact w
          · rw [pos_n w] at h2
            have e1 : cumP pt 256 = cumP pt 255 + pos (pt 255) := rfl
            omega
      · have e1 : cumP pt (s + 1) = cumP pt s + pos (pt s) := rfl
        have e2 := cumP_flat (pt := pt) (a := s + 1) (b := s1) (by omega) (fun v z1 z2 => q4 v (by omega) z2)
        rw [pos_n q1] at h2
        refine ⟨by rw [q3]; omega, ?_⟩
        rcases a4 with z | z
        · exact z
        · subst z
          rcases (by omega : 0 < l1 ∨ l1 ≤ 0) with w | w
          · exact w
          · have e3 : cumP pt 256 = cumP pt 255 + pos (pt 255) := rfl
            rw [← q3, pos_n w] at e3
            omega
    obtain ⟨k1, k2⟩ := key
    rw [pos_p (x := l1) (by omega)] at k1
    refine ⟨a2, by rw [hVs, pos_p (x := l1 - 1) (by omega)]; omega, fun v hv => ?_⟩
    rw [hWs v, h3 v hv, pos_p (x := l1 - 1) (by omega)]
    rcases a3 with q | ⟨q1, q2, q3, q4⟩
    · have q5 : s1 = s := congrArg Prod.fst q
      have q6 : l1 = l := congrArg Prod.snd q
      subst q5; subst q6
      rw [pos_p (x := l1) (by omega)]
      rcases (by omega : v < s1 ∨ v = s1 ∨ s1 < v) with z | z | z
      · rw [if_pos (show v < s1 by omega), if_neg (show ¬ s1 = v by omega)]; omega
      · rw [if_neg (show ¬ v < s1 by omega), if_pos (show v = s1 by omega), if_pos (show s1 = v by omega)]; omega
      · rw [if_neg (show ¬ v < s1 by omega), if_neg (show ¬ v = s1 by omega), if_neg (show ¬ s1 = v by omega)]; omega
    · rcases (by omega : v < s ∨ v = s ∨ (s < v ∧ v < s1) ∨ v = s1 ∨ s1 < v) with z | z | z | z | z
      · rw [if_pos (show v < s by omega), if_pos (show v < s1 by omega), if_neg (show ¬ s1 = v by omega)]; omega
      · rw [if_neg (show ¬ v < s by omega), if_pos (show v = s by omega), if_pos (show v < s1 by omega), if_neg (show ¬ s1 = v by omega), pos_n q1]; omega
      · rw [if_neg (show ¬ v < s by omega), if_neg (show ¬ v = s by omega), if_pos (show v < s1 by omega), if_neg (show ¬ s1 = v by omega), pos_n (q4 v z.1 z.2)]; rfl
      · rw [if_neg (show ¬ v < s by omega), if_neg (show ¬ v = s by omega), if_pos (show s1 = v by omega), if_neg (show ¬ v < s1 by omega), if_pos (show v = s1 by omega), z, ← q3, pos_p (show 0 ≤ l1 by omega)]; omega
      · rw [if_neg (show ¬ v < s by omega), if_neg (show ¬ v = s by omega), if_neg (show ¬ s1 = v by omega), if_neg (show ¬ v < s1 by omega), if_neg (show ¬ v = s1 by omega)]; rfl
  · have hs := sprd_n (pt := pt) (t := t) (o := o) (k := k) (e := e) (t2 := (sprd pt o e t k).1) (s := s) (l := l) (by rw [← hq]) (by omega)
    rw [hs]
    refine ⟨h1, ?_, fun v hv => ?_⟩
    · show _ = Vn o e k + (if (cel o k : Int) < e then 1 else 0)
      rw [if_neg hl]
      show cumP pt s + pos (pt s) - pos l = _
      omega
    · show Wn pt o e t v k + (if (cel o k : Int) < e ∧ asg pt o e t k = v then 1 else 0) = _
      rw [if_neg (fun z => hl z.1), Int.add_zero]
      exact h3 v hv
