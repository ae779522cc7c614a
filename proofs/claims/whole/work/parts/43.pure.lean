theorem wgt_pos {p : Int} (h : -1 ≤ p) : wgt p = pos p + (if p = -1 then 1 else 0) := by
  unfold wgt pos
  by_cases e : p = -1
  · rw [if_pos e, if_pos e, if_neg (show ¬ 0 < p by omega)]; rfl
  · rw [if_neg e, if_neg e]
    split <;> omega
theorem sngl_e {pt t : Nat → Int} {o : Nat} (hp : ∀ k, k < 256 → -1 ≤ pt k ∧ pt k ≤ 65536) : ∀ {s : Nat}, s ≤ 256 → (sngl pt o t s).1 = 2 ^ o - cum pt s + cumP pt s
  | 0, _ => by show (2 : Int) ^ o = 2 ^ o - 0 + 0; omega
  | s + 1, hs => by
    have ih := sngl_e hp (t := t) (o := o) (s := s) (by omega)
    have hw := wgt_pos (hp s (by omega)).1
    show (if pt s = -1 then ((sngl pt o t s).1 - 1, zu (sngl pt o t s).2 ((sngl pt o t s).1 - 1).toNat s) else sngl pt o t s).1 = 2 ^ o - (cum pt s + wgt (pt s)) + (cumP pt s + pos (pt s))
    by_cases e : pt s = -1
    · rw [if_pos e] at hw ⊢
      show (sngl pt o t s).1 - 1 = _
      omega
    · rw [if_neg e] at hw ⊢
      omega
theorem sngl_tab {pt t : Nat → Int} {o : Nat} (hp : ∀ k, k < 256 → -1 ≤ pt k ∧ pt k ≤ 65536) (hsum : cum pt 256 = 2 ^ o) : ∀ {s : Nat}, s ≤ 256 → (∀ v : Nat, sm (fun c => if (sngl pt o t s).1 ≤ (c : Int) ∧ (sngl pt o t s).2 c = v then 1 else 0) (2 ^ o) = if v < s ∧ pt v = -1 then 1 else 0) ∧ ∀ c : Nat, c < 2 ^ o → (sngl pt o t s).1 ≤ (c : Int) → ∃ v : Nat, v < s ∧ (sngl pt o t s).2 c = v
  | 0, _ => by
    have hpn := p2n o
    refine ⟨fun v => ?_, fun c hc h => ?_⟩
    · rw [if_neg (by omega)]
      refine sm_zero (fun c hc => if_neg (fun q => ?_))
      have q1 : (2 : Int) ^ o ≤ c := q.1
      omega
    · have q1 : (2 : Int) ^ o ≤ c := h
      omega
  | s + 1, hs => by
    have hpn := p2n o
    obtain ⟨ih1, ih2⟩ := sngl_tab hp hsum (t := t) (s := s) (by omega)
    have hb := sngl_b hp (t := t) (o := o) (s := s) (E := (sngl pt o t s).1) (t2 := (sngl pt o t s).2) (by omega) rfl
    have hfit := cum_fit hp (y := s) (by omega)
    by_cases e : pt s = -1
    · have hw1 : wgt (pt s) = 1 := if_pos e
      rw [sngl_s (E := (sngl pt o t s).1) (t2 := (sngl pt o t s).2) rfl e]
      generalize (sngl pt o t s).1 = E at ih1 ih2 hb
      generalize (sngl pt o t s).2 = t2 at ih1 ih2
      refine ⟨fun v => ?_, fun c hc h => ?_⟩
      · have e1 : sm (fun c => if (E - 1, zu t2 (E - 1).toNat s).1 ≤ (c : Int) ∧ (E - 1, zu t2 (E - 1).toNat s).2 c = v then (1 : Int) else 0) (2 ^ o) = sm (fun c => (if E ≤ (c : Int) ∧ t2 c = v then (1 : Int) else 0) + (if c = (E - 1).toNat then (fun _ => if s = v then (1 : Int) else 0) c else 0)) (2 ^ o) := sm_congr (fun c hc => by
          show (if E - 1 ≤ (c : Int) ∧ zu t2 (E - 1).toNat s c = v then (1 : Int) else 0) = (if E ≤ (c : Int) ∧ t2 c = v then (1 : Int) else 0) + (if c = (E - 1).toNat then (if s = v then (1 : Int) else 0) else 0)
          by_cases q : c = (E - 1).toNat
          · rw [if_pos q, q, zu_s, if_neg (show ¬ (E ≤ (((E - 1).toNat : Nat) : Int) ∧ t2 (E - 1).toNat = v) from fun z => by have := z.1; omega)]
            by_cases w : s = v
            · rw [if_pos w, if_pos ⟨by omega, by rw [w]⟩]; rfl
            · rw [if_neg w, if_neg (fun z => w (by have := z.2; omega))]; rfl
          · rw [if_neg q, zu_n q, Int.add_zero]
            by_cases w : E ≤ (c : Int) ∧ t2 c = v
            · rw [if_pos w, if_pos ⟨by omega, w.2⟩]
            · rw [if_neg w, if_neg (fun z => w ⟨by have := z.1; omega, z.2⟩)])
        rw [e1, sm_add, ih1 v, sm_one (f := fun _ => if s = v then (1 : Int) else 0) (show (E - 1).toNat < 2 ^ o by omega)]
        by_cases w : s = v
        · subst w
          rw [if_neg (show ¬ (s < s ∧ pt s = -1) by omega), if_pos rfl, if_pos ⟨by omega, e⟩]; rfl
        · rw [if_neg w, Int.add_zero]
          by_cases z : v < s ∧ pt v = -1
          · rw [if_pos z, if_pos ⟨by omega, z.2⟩]
          · rw [if_neg z, if_neg (fun q => z ⟨by omega, q.2⟩)]
      · have h : E - 1 ≤ (c : Int) := h
        show ∃ v : Nat, v < s + 1 ∧ zu t2 (E - 1).toNat s c = v
        by_cases q : c = (E - 1).toNat
        · exact ⟨s, by omega, by rw [q, zu_s]⟩
        · obtain ⟨v, h1, h2⟩ := ih2 c hc (by omega)
          exact ⟨v, by omega, by rw [zu_n q]; exact h2⟩
    · rw [sngl_n (E := (sngl pt o t s).1) (t2 := (sngl pt o t s).2) rfl e]
      refine ⟨fun v => ?_, fun c hc h => ?_⟩
      · show sm (fun c => if (sngl pt o t s).1 ≤ (c : Int) ∧ (sngl pt o t s).2 c = v then 1 else 0) (2 ^ o) = _
        rw [ih1 v]
        by_cases z : v < s ∧ pt v = -1
        · rw [if_pos z, if_pos ⟨by omega, z.2⟩]
        · rw [if_neg z, if_neg (fun q => z ⟨by
            rcases (by omega : v < s ∨ v = s) with w | w
            · exact w
            · rw [w] at q; exact absurd q.2 e, q.2⟩)]
      · obtain ⟨v, h1, h2⟩ := ih2 c hc h
        exact ⟨v, by omega, h2⟩
theorem sm_below {e : Int} (h0 : 0 ≤ e) : ∀ {n : Nat}, sm (fun c => if (c : Int) < e then 1 else 0) n = if (n : Int) ≤ e then (n : Int) else e
  | 0 => by rw [if_pos (by omega)]; rfl
  | n + 1 => by
    show sm (fun c => if (c : Int) < e then 1 else 0) n + (if (n : Int) < e then 1 else 0) = _
    rw [sm_below h0]
    by_cases q : (n : Int) < e
    · rw [if_pos q, if_pos (show (n : Int) ≤ e by omega), if_pos (show ((n + 1 : Nat) : Int) ≤ e by omega)]; omega
    · rw [if_neg q, if_neg (show ¬ ((n + 1 : Nat) : Int) ≤ e by omega)]
      split <;> omega
section TB
variable {pt t : Nat → Int} {o : Nat} {e : Int}
theorem Vn_all (h5 : 5 ≤ o ∧ o ≤ 12) (h0 : 0 ≤ e) (hN : e ≤ 2 ^ o) : Vn o e (2 ^ o) = e := by
  have hpn := p2n o
  unfold Vn
  rw [cel_sum h5 (fun c => if (c : Int) < e then 1 else 0), sm_below h0]
  split <;> omega
theorem sI_all (h5 : 5 ≤ o ∧ o ≤ 12) (h0 : 0 ≤ e) (hN : e ≤ 2 ^ o) (he : cumP pt 256 = e) : ∀ {k : Nat}, k ≤ 2 ^ o → sI pt o e t k (sprd pt o e t k).2.1 (sprd pt o e t k).2.2
  | 0, _ => sI_0
  | k + 1, hk => by
    refine sI_s he (fun hl => ?_) rfl (sI_all h5 h0 hN he (k := k) (by omega))
    have h1 : Vn o e (k + 1) = Vn o e k + 1 := by
      show Vn o e k + (if (cel o k : Int) < e then 1 else 0) = _
      rw [if_pos hl]
    have h2 := Vn_mono (o := o) (e := e) (a := k + 1) (b := 2 ^ o) hk
    rw [Vn_all h5 h0 hN] at h2
    omega
theorem Wn_all (h5 : 5 ≤ o ∧ o ≤ 12) (h0 : 0 ≤ e) (hN : e ≤ 2 ^ o) (he : cumP pt 256 = e) {v : Nat} (hv : v < 256) : Wn pt o e t v (2 ^ o) = pos (pt v) := by
  obtain ⟨h1, h2, h3⟩ := sI_all (pt := pt) (t := t) h5 h0 hN he (Nat.le_refl (2 ^ o))
  rw [Vn_all h5 h0 hN] at h2
  rw [h3 v hv]
  generalize (sprd pt o e t (2 ^ o)).2.1 = s at h1 h2
  generalize (sprd pt o e t (2 ^ o)).2.2 = l at h2
  have m1 := cumP_mono (pt := pt) (a := s + 1) (b := 256) (by omega)
  have m2 : cumP pt (s + 1) = cumP pt s + pos (pt s) := rfl
  have m3 := pos_0 l
  rcases (by omega : v < s ∨ v = s ∨ s < v) with z | z | z
  · rw [if_pos z]
  · rw [if_neg (show ¬ v < s by omega), if_pos z]
    omega
  · rw [if_neg (show ¬ v < s by omega), if_neg (show ¬ v = s by omega)]
    have m4 := cumP_mono (pt := pt) (a := s + 1) (b := v) (by omega)
    have m5 := cumP_mono (pt := pt) (a := v + 1) (b := 256) (by omega)
    have m6 : cumP pt (v + 1) = cumP pt v + pos (pt v) := rfl
    have m7 := pos_0 (pt v)
    omega
theorem sprd_tab (h5 : 5 ≤ o ∧ o ≤ 12) : ∀ {k : Nat}, k ≤ 2 ^ o → (∀ j, j < k → (cel o j : Int) < e → (sprd pt o e t k).1 (cel o j) = asg pt o e t j) ∧ ∀ c : Nat, e ≤ (c : Int) → (sprd pt o e t k).1 c = t c
  | 0, _ => ⟨fun j h => absurd h (by omega), fun _ _ => rfl⟩
  | k + 1, hk => by
    obtain ⟨ih1, ih2⟩ := sprd_tab h5 (k := k) (by omega)
    by_cases hl : (cel o k : Int) < e
    · have hs := sprd_s (pt := pt) (t := t) (o := o) (k := k) (e := e) (t2 := (sprd pt o e t k).1) (s := (sprd pt o e t k).2.1) (l := (sprd pt o e t k).2.2) (s2 := asg pt o e t k) (l2 := (adv pt 256 (sprd pt o e t k).2.1 (sprd pt o e t k).2.2).2) rfl hl rfl
      rw [hs]
      refine ⟨fun j hj hlj => ?_, fun c hc => ?_⟩
      · show zu (sprd pt o e t k).1 (cel o k) (asg pt o e t k) (cel o j) = _
        by_cases q : j = k
        · rw [q, zu_s]
        · rw [zu_n (fun z => q (cel_inj h5 (by omega) (by omega) z))]
          exact ih1 j (by omega) hlj
      · show zu (sprd pt o e t k).1 (cel o k) (asg pt o e t k) c = _
        rw [zu_n (by omega)]
        exact ih2 c hc
    · have hs := sprd_n (pt := pt) (t := t) (o := o) (k := k) (e := e) (t2 := (sprd pt o e t k).1) (s := (sprd pt o e t k).2.1) (l := (sprd pt o e t k).2.2) rfl (by omega)
      rw [hs]
      refine ⟨fun j hj hlj => ?_, ih2⟩
      by_cases q : j = k
      · rw [q] at hlj; exact absurd hlj hl
      · exact ih1 j (by omega) hlj
end TB
section TB2
variable {pt t : Nat → Int} {o : Nat}
theorem tb_e (hp : ∀ k, k < 256 → -1 ≤ pt k ∧ pt k ≤ 65536) (hsum : cum pt 256 = 2 ^ o) : cumP pt 256 = tbE pt o t ∧ 0 ≤ tbE pt o t ∧ tbE pt o t ≤ 2 ^ o := by
  have h1 := sngl_e hp (t := t) (o := o) (s := 256) (by omega)
  have h2 := sngl_b hp (t := t) (o := o) (s := 256) (E := (sngl pt o t 256).1) (t2 := (sngl pt o t 256).2) (by omega) rfl
  unfold tbE
  omega
theorem tb_cnt (h5 : 5 ≤ o ∧ o ≤ 12) (hp : ∀ k, k < 256 → -1 ≤ pt k ∧ pt k ≤ 65536) (hsum : cum pt 256 = 2 ^ o) {v : Nat} (hv : v < 256) : cntS (tbT pt o t) v (2 ^ o) = wgt (pt v) := by
  obtain ⟨e1, e2, e3⟩ := tb_e (t := t) hp hsum
  have hT := sprd_tab (pt := pt) (t := (sngl pt o t 256).2) (e := tbE pt o t) h5 (Nat.le_refl (2 ^ o))
  have hS := (sngl_tab hp hsum (t := t) (s := 256) (by omega)).1 v
  rw [cntS_sm, ← cel_sum h5 (fun c => if tbT pt o t c = v then 1 else 0)]
  have hc : sm (fun j => if tbT pt o t (cel o j) = v then (1 : Int) else 0) (2 ^ o) = sm (fun j => (if (cel o j : Int) < tbE pt o t ∧ asg pt o (tbE pt o t) (sngl pt o t 256).2 j = v then (1 : Int) else 0) + (if tbE pt o t ≤ (cel o j : Int) ∧ (sngl pt o t 256).2 (cel o j) = v then 1 else 0)) (2 ^ o) := sm_congr (fun j hj => by
    by_cases q : (cel o j : Int) < tbE pt o t
    · have ht : tbT pt o t (cel o j) = asg pt o (tbE pt o t) (sngl pt o t 256).2 j := hT.1 j hj q
      rw [ht, if_neg (show ¬ (tbE pt o t ≤ (cel o j : Int) ∧ (sngl pt o t 256).2 (cel o j) = v) from fun z => by have := z.1; omega), Int.add_zero]
      by_cases w : asg pt o (tbE pt o t) (sngl pt o t 256).2 j = v
      · rw [if_pos (by rw [w]), if_pos ⟨q, w⟩]
      · rw [if_neg (by omega), if_neg (fun z => w z.2)]
    · have ht : tbT pt o t (cel o j) = (sngl pt o t 256).2 (cel o j) := hT.2 (cel o j) (by omega)
      rw [ht, if_neg (show ¬ ((cel o j : Int) < tbE pt o t ∧ asg pt o (tbE pt o t) (sngl pt o t 256).2 j = v) from fun z => q z.1), Int.zero_add]
      by_cases w : (sngl pt o t 256).2 (cel o j) = v
      · rw [if_pos w, if_pos ⟨by omega, w⟩]
      · rw [if_neg w, if_neg (fun z => w z.2)])
  rw [hc, sm_add, cel_sum h5 (fun c => if tbE pt o t ≤ (c : Int) ∧ (sngl pt o t 256).2 c = v then 1 else 0)]
  have hW : sm (fun j => if (cel o j : Int) < tbE pt o t ∧ asg pt o (tbE pt o t) (sngl pt o t 256).2 j = v then (1 : Int) else 0) (2 ^ o) = pos (pt v) := Wn_all h5 e2 e3 e1 hv
  have hS2 : sm (fun c => if tbE pt o t ≤ (c : Int) ∧ (sngl pt o t 256).2 c = v then (1 : Int) else 0) (2 ^ o) = if v < 256 ∧ pt v = -1 then 1 else 0 := hS
  rw [hW, hS2, wgt_pos (hp v hv).1]
  by_cases w : pt v = -1
  · rw [if_pos (show v < 256 ∧ pt v = -1 from ⟨hv, w⟩), if_pos w]
  · rw [if_neg (show ¬ (v < 256 ∧ pt v = -1) from fun z => w z.2), if_neg w]
theorem tb_rng (h5 : 5 ≤ o ∧ o ≤ 12) (hp : ∀ k, k < 256 → -1 ≤ pt k ∧ pt k ≤ 65536) (hsum : cum pt 256 = 2 ^ o) {c : Nat} (hc : (c : Int) < 2 ^ o) : 0 ≤ tbT pt o t c ∧ tbT pt o t c < 256 := by
  have hpn := p2n o
  have hT := sprd_tab (pt := pt) (t := (sngl pt o t 256).2) (e := tbE pt o t) h5 (Nat.le_refl (2 ^ o))
  obtain ⟨e1, e2, e3⟩ := tb_e (t := t) hp hsum
  by_cases q : (c : Int) < tbE pt o t
  · have h1 := cel_inv h5 (show c < 2 ^ o by omega)
    have h2 := hT.1 (c * inv_ o % 2 ^ o) (Nat.mod_lt _ (Nat.pow_pos (by decide))) (by rw [h1]; exact q)
    rw [h1] at h2
    have h3 : tbT pt o t c = asg pt o (tbE pt o t) (sngl pt o t 256).2 (c * inv_ o % 2 ^ o) := h2
    have h4 := (sI_all (pt := pt) (t := (sngl pt o t 256).2) h5 e2 e3 e1 (k := c * inv_ o % 2 ^ o) (Nat.le_of_lt (Nat.mod_lt _ (Nat.pow_pos (by decide))))).1
    have h6 := (adv_spec (pt := pt) 256 (sprd pt o (tbE pt o t) (sngl pt o t 256).2 (c * inv_ o % 2 ^ o)).2.1 (sprd pt o (tbE pt o t) (sngl pt o t 256).2 (c * inv_ o % 2 ^ o)).2.2 h4 (by omega)).1.2
    have h7 : asg pt o (tbE pt o t) (sngl pt o t 256).2 (c * inv_ o % 2 ^ o) ≤ 255 := h6
    omega
  · obtain ⟨v, h1, h2⟩ := (sngl_tab hp hsum (t := t) (s := 256) (by omega)).2 c (by omega) (by show tbE pt o t ≤ (c : Int); omega)
    have h3 : tbT pt o t c = (sngl pt o t 256).2 c := hT.2 c (by omega)
    omega
end TB2
/-- a share's tables, as the class has them -/
def shOK (gP gS gB gA gC gF : Nat → Int) (o : Nat) : Prop := numT4 gP gS o (2 ^ o) gB gA gC ∧ (∀ k, k < 256 → gF k = cum gP k) ∧ (∀ v : Nat, v < 256 → cntS gS v (2 ^ o) = wgt (gP v)) ∧ ∀ k : Nat, (k : Int) < 2 ^ o → 0 ≤ gS k ∧ gS k < 256
theorem cum_congr {g g2 : Nat → Int} : ∀ {n : Nat}, (∀ k, k < n → g k = g2 k) → cum g n = cum g2 n
  | 0, _ => rfl
  | n + 1, h => by
    show cum g n + wgt (g n) = cum g2 n + wgt (g2 n)
    rw [cum_congr (fun k hk => h k (by omega)), h n (by omega)]
theorem stp_b {o : Nat} (h : o ≤ 12) : (stp o : Int) ≤ 4096 := by
  have h1 := Nat.pow_le_pow_right (n := 2) (by decide) h
  unfold stp
  omega
theorem mul_b {a b c : Int} (h1 : 0 ≤ a ∧ a ≤ 4096) (h2 : 0 ≤ b ∧ b ≤ 4096) (h3 : 0 < c) (h4 : c < 2147483648) : 0 ≤ a * b ∧ a * b < 2147483648 ∧ 0 < c ∧ c < 2147483648 := by
  have q1 := Int.mul_nonneg h1.1 h2.1
  have q2 := Int.mul_le_mul h1.2 h2.2 h2.1 (by omega)
  exact ⟨q1, by omega, h3, h4⟩
theorem cel_m (o k : Nat) : (k : Int) * (stp o : Int) % 2 ^ o = (cel o k : Int) := by
  unfold cel
  rw [Int.natCast_emod, Int.natCast_mul, p2n]
