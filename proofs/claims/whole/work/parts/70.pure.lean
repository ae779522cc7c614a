/-! the cell of a symbol, by its number; the number of a state -/
def fcF (g : Nat → Int) (v r : Int) : Nat → Nat
  | 0 => 0
  | k + 1 => if g k = v ∧ cntS g v k = r then k else fcF g v r k
theorem fcF_is {g : Nat → Int} {v r : Int} {k : Nat} : ∀ {N : Nat}, k < N → g k = v → cntS g v k = r → fcF g v r N = k
  | 0, h, _, _ => absurd h (by omega)
  | N + 1, h, h1, h2 => by
    show (if g N = v ∧ cntS g v N = r then N else fcF g v r N) = k
    by_cases e : k = N
    · subst e
      rw [if_pos ⟨h1, h2⟩]
    · have := cnt_lt (g := g) (v := v) h1 (show k < N by omega)
      rw [if_neg (fun q => by have := q.2; omega)]
      exact fcF_is (by omega) h1 h2
theorem cnt_ex {g : Nat → Int} {v r : Int} : ∀ {N : Nat}, 0 ≤ r → r < cntS g v N → ∃ k, k < N ∧ g k = v ∧ cntS g v k = r
  | 0, h0, h => absurd h (by show ¬ r < 0; omega)
  | N + 1, h0, h => by
    rcases (by omega : r < cntS g v N ∨ cntS g v N ≤ r) with q | q
    · obtain ⟨k, a, b, c⟩ := cnt_ex h0 q
      exact ⟨k, by omega, b, c⟩
    · by_cases e : g N = v
      · rw [cntS_s e] at h
        exact ⟨N, by omega, e, by omega⟩
      · rw [cntS_n e] at h
        omega
theorem fcF_ok {g : Nat → Int} {v r : Int} {N : Nat} (h0 : 0 ≤ r) (h : r < cntS g v N) : fcF g v r N < N ∧ g (fcF g v r N) = v ∧ cntS g v (fcF g v r N) = r := by
  obtain ⟨k, a, b, c⟩ := cnt_ex h0 h
  rw [fcF_is a b c]
  exact ⟨a, b, c⟩
def enN (wh w : Int) : Nat → Nat
  | 0 => 0
  | k + 1 => if w ≤ wh / 2 ^ k ∧ wh / 2 ^ k < 2 * w then k else enN wh w k
theorem wh_half {wh : Int} (h : 0 ≤ wh) {a : Nat} : ∀ {b : Nat}, a < b → 2 * (wh / 2 ^ b) ≤ wh / 2 ^ a
  | 0, hb => absurd hb (by omega)
  | b + 1, hb => by
    have e : wh / 2 ^ (b + 1) = wh / 2 ^ b / 2 := by rw [Int.pow_succ, ← Int.ediv_ediv_of_nonneg (Int.le_of_lt (p2_pos b))]
    have h0 := (wh_div (b := b) h).1
    by_cases q : a = b
    · subst q
      omega
    · have := wh_half h (a := a) (b := b) (by omega)
      omega
theorem enN_is {wh w : Int} {n : Nat} (h0 : 0 ≤ wh) (hn : w ≤ wh / 2 ^ n ∧ wh / 2 ^ n < 2 * w) : ∀ {N : Nat}, n < N → enN wh w N = n
  | 0, h => absurd h (by omega)
  | N + 1, h => by
    show (if w ≤ wh / 2 ^ N ∧ wh / 2 ^ N < 2 * w then N else enN wh w N) = n
    by_cases e : n = N
    · subst e
      rw [if_pos hn]
    · have := wh_half h0 (show n < N by omega)
      rw [if_neg (by omega)]
      exact enN_is h0 hn (by omega)
theorem en_exit {wh w : Int} {o n : Nat} (h1 : 2 ^ o ≤ wh) (h2 : wh < 2 ^ (o + 1)) (hw : 1 ≤ w ∧ w ≤ 2 ^ o) (hn : n ≤ o) (hm : ∀ j : Nat, j < n → 2 * w ≤ wh / 2 ^ j) (he : n = o ∨ wh / 2 ^ n < 2 * w) : w ≤ wh / 2 ^ n ∧ wh / 2 ^ n < 2 * w := by
  have hp := p2_pos o
  have hps := p2_s o
  constructor
  · cases n with
    | zero => rw [Int.pow_zero, Int.ediv_one]; omega
    | succ n =>
      have q := hm n (by omega)
      rw [Int.pow_succ, ← Int.ediv_ediv_of_nonneg (Int.le_of_lt (p2_pos n))]
      omega
  · rcases he with rfl | he
    · have : wh / 2 ^ n < 2 := Int.ediv_lt_of_lt_mul hp (by omega)
      omega
    · exact he
theorem cell_fc {gP gS gB gA gC gF : Nat → Int} {o v : Nat} {y r : Int} (h : shOK gP gS gB gA gC gF o) (hv : v < 256) (hr : r = y - wgt (gP v)) (h0 : 0 ≤ r) (h1 : r < wgt (gP v)) : gC (gF v + y - wgt (gP v)).toNat = (fcF gS v r (2 ^ o) : Int) := by
  obtain ⟨a, b, c, d⟩ := h
  have k := fcF_ok (g := gS) (v := v) (r := r) (N := 2 ^ o) h0 (by rw [c v hv]; exact h1)
  have e := (a _ k.1).2.2
  rw [k.2.1, k.2.2, show ((v : Int)).toNat = v from rfl] at e
  rw [← e, b v hv, show cum gP v + y - wgt (gP v) = cum gP v + r by omega]
/-- coding a row: the state, and the bits so far, behind j symbols from the one at hi down -/
def ecS (gP gS : Nat → Int) (o : Nat) (b : Nat → Int) (hi : Nat) : Nat → Nat × Nat × Nat
  | 0 => (fcF gS (b hi) 0 (2 ^ o), 0, 0)
  | j + 1 => (fcF gS (b (hi - (j + 1))) ((((ecS gP gS o b hi j).1 : Int) + 2 ^ o) / 2 ^ enN (((ecS gP gS o b hi j).1 : Int) + 2 ^ o) (wgt (gP (b (hi - (j + 1))).toNat)) (o + 1) - wgt (gP (b (hi - (j + 1))).toNat)) (2 ^ o),
      (ecS gP gS o b hi j).2.1 + ((((ecS gP gS o b hi j).1 : Int) + 2 ^ o) % 2 ^ enN (((ecS gP gS o b hi j).1 : Int) + 2 ^ o) (wgt (gP (b (hi - (j + 1))).toNat)) (o + 1)).toNat * 2 ^ (ecS gP gS o b hi j).2.2,
      (ecS gP gS o b hi j).2.2 + enN (((ecS gP gS o b hi j).1 : Int) + 2 ^ o) (wgt (gP (b (hi - (j + 1))).toNat)) (o + 1))
theorem wgt_z {p : Int} (h : -1 ≤ p) : wgt p = 0 ↔ p = 0 := by unfold wgt; split <;> omega
theorem aw_s {g f : Nat → Int} {a : Int} {i : Nat} (h : ∀ k : Nat, a ≤ (k : Int) → k < i → g (f k % 256).toNat ≠ 0) (h0 : g (f i % 256).toNat ≠ 0) : ∀ k : Nat, a ≤ (k : Int) → k < i + 1 → g (f k % 256).toNat ≠ 0 := by
  intro k q1 q2
  by_cases e : k = i
  · rw [e]; exact h0
  · exact h k q1 (by omega)
def ecB (gP gS : Nat → Int) (o : Nat) (b : Nat → Int) (hi j : Nat) : Nat := (ecS gP gS o b hi j).2.2 + o + 1
def ecV (gP gS : Nat → Int) (o : Nat) (b : Nat → Int) (hi j : Nat) : Nat := (ecS gP gS o b hi j).2.1 + (ecS gP gS o b hi j).1 * 2 ^ (ecS gP gS o b hi j).2.2 + 1 * 2 ^ ((ecS gP gS o b hi j).2.2 + o)
theorem ecS_mono {gP gS : Nat → Int} {o : Nat} {b : Nat → Int} {hi j : Nat} : ∀ {m : Nat}, j ≤ m → (ecS gP gS o b hi j).2.2 ≤ (ecS gP gS o b hi m).2.2
  | 0, h => by rw [show j = 0 by omega]; exact Nat.le_refl _
  | m + 1, h => by
    by_cases e : j = m + 1
    · rw [e]; exact Nat.le_refl _
    · have := ecS_mono (gP := gP) (gS := gS) (o := o) (b := b) (hi := hi) (j := j) (m := m) (by omega)
      exact Nat.le_trans this (Nat.le_add_right _ _)
theorem ecB_mono {gP gS : Nat → Int} {o : Nat} {b : Nat → Int} {hi j m : Nat} (h : j ≤ m) : (ecS gP gS o b hi j).2.2 ≤ ecB gP gS o b hi m := by
  have := ecS_mono (gP := gP) (gS := gS) (o := o) (b := b) (hi := hi) h
  unfold ecB
  omega
theorem ecS_ok {gP gS : Nat → Int} {o : Nat} {b : Nat → Int} {hi a : Nat} (h5 : 5 ≤ o ∧ o ≤ 12) (hp : ∀ k, k < 256 → -1 ≤ gP k ∧ gP k ≤ 65536) (hsum : cum gP 256 = 2 ^ o) (hc : ∀ v : Nat, v < 256 → cntS gS v (2 ^ o) = wgt (gP v)) (hb : ∀ k : Nat, a ≤ k → k ≤ hi → 0 ≤ b k ∧ b k < 256 ∧ gP (b k).toNat ≠ 0) : ∀ {j : Nat}, j + a ≤ hi → ((ecS gP gS o b hi j).1 : Int) < 2 ^ o := by
  have hpn := p2n o
  have hp0 := p2_pos o
  have hps := p2_s o
  have fact : ∀ k : Nat, a ≤ k → k ≤ hi → 1 ≤ wgt (gP (b k).toNat) ∧ wgt (gP (b k).toNat) ≤ 2 ^ o ∧ cntS gS (b k) (2 ^ o) = wgt (gP (b k).toNat) := fun k q1 q2 => by
    have h1 := hb k q1 q2
    have h2 := hp (b k).toNat (by omega)
    have h3 := wgt_b h2
    have h4 := wgt_z h2.1
    have h6 := cum_fit hp (y := (b k).toNat) (by omega)
    have h7 := cum_lo hp (b := (b k).toNat) (by omega)
    have h8 := hc (b k).toNat (by omega)
    rw [show (((b k).toNat : Nat) : Int) = b k by omega] at h8
    have h9 : wgt (gP (b k).toNat) ≠ 0 := fun q => h1.2.2 (h4.mp q)
    exact ⟨by omega, by omega, h8⟩
  intro j
  induction j with
  | zero =>
    intro h
    have f := fact hi (by omega) (Nat.le_refl _)
    have k := (fcF_ok (g := gS) (v := b hi) (r := 0) (N := 2 ^ o) (Int.le_refl _) (by rw [f.2.2]; omega)).1
    show ((fcF gS (b hi) 0 (2 ^ o) : Nat) : Int) < 2 ^ o
    omega
  | succ j ih =>
    intro h
    have ih := ih (by omega)
    have f := fact (hi - (j + 1)) (by omega) (by omega)
    obtain ⟨n, n1, n2, n3⟩ := enc_ex (wh := ((ecS gP gS o b hi j).1 : Int) + 2 ^ o) (w := wgt (gP (b (hi - (j + 1))).toNat)) (o := o) (by omega) (by omega) f.1 f.2.1
    have en := enN_is (N := o + 1) (show 0 ≤ ((ecS gP gS o b hi j).1 : Int) + 2 ^ o by omega) ⟨n2, n3⟩ (by omega)
    have k := (fcF_ok (g := gS) (v := b (hi - (j + 1))) (r := (((ecS gP gS o b hi j).1 : Int) + 2 ^ o) / 2 ^ n - wgt (gP (b (hi - (j + 1))).toNat)) (N := 2 ^ o) (by omega) (by rw [f.2.2]; omega)).1
    show ((fcF gS (b (hi - (j + 1))) ((((ecS gP gS o b hi j).1 : Int) + 2 ^ o) / 2 ^ enN (((ecS gP gS o b hi j).1 : Int) + 2 ^ o) (wgt (gP (b (hi - (j + 1))).toNat)) (o + 1) - wgt (gP (b (hi - (j + 1))).toNat)) (2 ^ o) : Nat) : Int) < 2 ^ o
    rw [en]
    omega
theorem ec_post {gP gS : Nat → Int} {o : Nat} {b : Nat → Int} {hi j : Nat} {L hd hn ov z : Int} {f : Nat → Int} (h : rI ((ecS gP gS o b hi j).2.1 + (ecS gP gS o b hi j).1 * 2 ^ (ecS gP gS o b hi j).2.2 + 1 * 2 ^ ((ecS gP gS o b hi j).2.2 + o)) (8 * (((ecS gP gS o b hi j).2.2 + o + 1 + 7) / 8)) (((ecS gP gS o b hi j).2.2 + o + 1 + 7) / 8) L hd hn ov f) (ho : ov = if ((ecS gP gS o b hi j).2.2 + o + 1 + 7) / 8 ≤ 6000 then 0 else 1) (hz : (z = 0 ∧ ov ≠ 0) ∨ (z = 1 ∧ ov = 0)) : (z = 1 ∧ ecB gP gS o b hi j ≤ 48000 ∧ rI (ecV gP gS o b hi j) (8 * ((ecB gP gS o b hi j + 7) / 8)) ((ecB gP gS o b hi j + 7) / 8) L hd hn ov f) ∨ (z = 0 ∧ 48000 < ecB gP gS o b hi j ∧ ∀ k, -128 ≤ f k ∧ f k < 128) := by
  rcases hz with ⟨h1, h2⟩ | ⟨h1, h2⟩
  · refine Or.inr ⟨h1, ?_, h.2.2.2.2.2.2.2⟩
    rcases Nat.lt_or_ge 6000 (((ecS gP gS o b hi j).2.2 + o + 1 + 7) / 8) with q | q
    · unfold ecB; omega
    · rw [if_pos q] at ho; exact absurd ho h2
  · refine Or.inl ⟨h1, ?_, h⟩
    rcases Nat.lt_or_ge 6000 (((ecS gP gS o b hi j).2.2 + o + 1 + 7) / 8) with q | q
    · rw [if_neg (by omega)] at ho; omega
    · unfold ecB; omega
theorem ec_post2 {gP gS : Nat → Int} {o : Nat} {b : Nat → Int} {hi j M : Nat} {ov z : Int} {X Y : Prop} (hY : Y) (ho : ov = if ((ecS gP gS o b hi j).2.2 + o + 1 + 7) / 8 ≤ 6000 then 0 else 1) (hbig : 6000 < (ecS gP gS o b hi j).2.2 / 8) (hm : (ecS gP gS o b hi j).2.2 ≤ ecB gP gS o b hi M) (hz : (z = 0 ∧ ov ≠ 0) ∨ (z = 1 ∧ ov = 0)) : (z = 1 ∧ ecB gP gS o b hi M ≤ 48000 ∧ X) ∨ (z = 0 ∧ 48000 < ecB gP gS o b hi M ∧ Y) := by
  rcases hz with ⟨h1, _⟩ | ⟨_, h2⟩
  · exact Or.inr ⟨h1, by omega, hY⟩
  · rw [if_neg (by omega)] at ho
    omega
