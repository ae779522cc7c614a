/-! the reference's OUT: V of B bits are put, and stand in g -/
def mO (V B : Nat) (g : Nat → Int) : Prop := V < 2 ^ B ∧ B ≤ 48000 ∧ ∀ k, k < 6000 → g k = ((V / 2 ^ (8 * k) % 256 : Nat) : Int)
theorem p2n (n : Nat) : ((2 ^ n : Nat) : Int) = 2 ^ n := by rw [Int.natCast_pow]; rfl
theorem p2c (a b : Nat) : 2 ^ (a + b) = 2 ^ a * 2 ^ b := Nat.pow_add 2 a b
theorem mO_bit {V B b : Nat} {g : Nat → Int} (h : mO V B g) (hb : b < 2) (hB : B < 48000) : mO (V + b * 2 ^ B) (B + 1) (zu g (B / 8) (g (B / 8) + (b : Int) * 2 ^ (B % 8))) := by
  obtain ⟨h1, h2, h3⟩ := h
  refine ⟨?_, by omega, fun k hk => ?_⟩
  · rw [Nat.pow_succ]
    rcases (by omega : b = 0 ∨ b = 1) with rfl | rfl
    · omega
    · omega
  · by_cases e : k = B / 8
    · subst e
      rw [zu_s, h3 _ hk]
      have hB8 : B = 8 * (B / 8) + B % 8 := by omega
      have e1 : 2 ^ B = 2 ^ (8 * (B / 8)) * 2 ^ (B % 8) := by rw [← p2c, ← hB8]
      have hp : 0 < 2 ^ (8 * (B / 8)) := Nat.pow_pos (by decide)
      have q1 : V / 2 ^ (8 * (B / 8)) < 2 ^ (B % 8) := (Nat.div_lt_iff_lt_mul hp).mpr (by rw [Nat.mul_comm, ← e1]; exact h1)
      have q2 : 2 ^ (B % 8) ≤ 2 ^ 7 := Nat.pow_le_pow_right (by decide) (by omega)
      have q3 : (V + b * 2 ^ B) / 2 ^ (8 * (B / 8)) = V / 2 ^ (8 * (B / 8)) + b * 2 ^ (B % 8) := by
        rw [e1, Nat.mul_left_comm, Nat.add_mul_div_left _ _ hp]
      have q4 : b * 2 ^ (B % 8) ≤ 128 := by
        have := Nat.mul_le_mul (show b ≤ 1 by omega) q2
        omega
      have q5 : b * 2 ^ (B % 8) = 0 ∨ b * 2 ^ (B % 8) = 2 ^ (B % 8) := by
        rcases (by omega : b = 0 ∨ b = 1) with rfl | rfl
        · exact Or.inl (Nat.zero_mul _)
        · exact Or.inr (Nat.one_mul _)
      have q6 : V / 2 ^ (8 * (B / 8)) % 256 = V / 2 ^ (8 * (B / 8)) := Nat.mod_eq_of_lt (by omega)
      have q7 : (V / 2 ^ (8 * (B / 8)) + b * 2 ^ (B % 8)) % 256 = V / 2 ^ (8 * (B / 8)) + b * 2 ^ (B % 8) := Nat.mod_eq_of_lt (by omega)
      rw [q3, q6, q7, Int.natCast_add, Int.natCast_mul, p2n]
    · rw [zu_n e, h3 k hk]
      congr 1
      rcases Nat.lt_or_ge k (B / 8) with q | q
      · have e2 : 2 ^ B = 2 ^ (8 * k) * (256 * 2 ^ (B - 8 * k - 8)) := by
          rw [show (256 : Nat) = 2 ^ 8 from rfl, ← p2c, ← p2c]; congr 1; omega
        rw [e2, Nat.mul_left_comm, Nat.mul_left_comm b 256, Nat.add_mul_div_left _ _ (Nat.pow_pos (by decide)), Nat.add_mul_mod_self_left]
      · have e3 : 2 ^ (B + 1) ≤ 2 ^ (8 * k) := Nat.pow_le_pow_right (by decide) (by omega)
        have e4 : V + b * 2 ^ B < 2 ^ (B + 1) := by
          rw [Nat.pow_succ]
          rcases (by omega : b = 0 ∨ b = 1) with rfl | rfl
          · omega
          · omega
        rw [Nat.div_eq_of_lt (by omega), Nat.div_eq_of_lt (by omega)]
theorem mO_step {V B x j : Nat} {g : Nat → Int} (h : mO (V + x % 2 ^ j * 2 ^ B) (B + j) g) (hB : B + j < 48000) : mO (V + x % 2 ^ (j + 1) * 2 ^ B) (B + (j + 1)) (zu g ((B + j) / 8) (g ((B + j) / 8) + (x : Int) / 2 ^ j % 2 * 2 ^ ((B + j) % 8))) := by
  have e1 : x % 2 ^ (j + 1) = x % 2 ^ j + 2 ^ j * (x / 2 ^ j % 2) := by rw [Nat.pow_succ, Nat.mod_mul]
  have e2 : V + x % 2 ^ (j + 1) * 2 ^ B = V + x % 2 ^ j * 2 ^ B + (x / 2 ^ j % 2) * 2 ^ (B + j) := by
    rw [e1, Nat.add_mul, p2c, Nat.add_assoc, Nat.mul_comm (2 ^ j), Nat.mul_assoc, Nat.mul_comm (2 ^ j) (2 ^ B)]
  have e3 : (x : Int) / 2 ^ j % 2 = ((x / 2 ^ j % 2 : Nat) : Int) := by rw [← p2n, Int.natCast_emod, Int.natCast_ediv]; rfl
  rw [e2, e3]
  exact mO_bit h (Nat.mod_lt _ (by decide)) hB
theorem mO_0 {V B x : Nat} {g : Nat → Int} (h : mO V B g) : mO (V + x % 2 ^ 0 * 2 ^ B) (B + 0) g := by
  rw [Nat.pow_zero, Nat.mod_one, Nat.zero_mul, Nat.add_zero]
  exact h
theorem mO_e {V B x n : Nat} {g : Nat → Int} (h : mO (V + x % 2 ^ n * 2 ^ B) (B + n) g) (hx : x < 2 ^ n) : mO (V + x * 2 ^ B) (B + n) g := by
  rw [Nat.mod_eq_of_lt hx] at h
  exact h
theorem mO_begin {g : Nat → Int} (h : ∀ k, k < 6000 → g k = 0) : mO 0 0 g := ⟨by decide, by decide, fun k hk => by rw [h k hk, Nat.zero_div]; rfl⟩
/-- the number of n bits from bit q on -/
def nbI (b : Nat → Int) (q : Nat) : Nat → Int
  | 0 => 0
  | n + 1 => nbI b q n + b ((q + n) / 8) / 2 ^ ((q + n) % 8) % 2 * 2 ^ n
theorem nbI_b (b : Nat → Int) (q : Nat) : ∀ n : Nat, 0 ≤ nbI b q n ∧ nbI b q n < 2 ^ n
  | 0 => ⟨Int.le_refl 0, by show (0 : Int) < 2 ^ 0; decide⟩
  | n + 1 => by
    have h := nbI_b b q n
    have h0 := p2_pos n
    show 0 ≤ nbI b q n + b ((q + n) / 8) / 2 ^ ((q + n) % 8) % 2 * 2 ^ n ∧ nbI b q n + b ((q + n) / 8) / 2 ^ ((q + n) % 8) % 2 * 2 ^ n < 2 ^ (n + 1)
    rw [p2_s]
    rcases (by omega : b ((q + n) / 8) / 2 ^ ((q + n) % 8) % 2 = 0 ∨ b ((q + n) / 8) / 2 ^ ((q + n) % 8) % 2 = 1) with e | e
    · rw [e]; omega
    · rw [e]; omega
/-- the number of a state for a symbol of weight w -/
theorem enc_ex {wh w : Int} {o : Nat} (h1 : 2 ^ o ≤ wh) (h2 : wh < 2 ^ (o + 1)) (hw : 1 ≤ w) (hw2 : w ≤ 2 ^ o) : ∃ n : Nat, n ≤ o ∧ w ≤ wh / 2 ^ n ∧ wh / 2 ^ n < 2 * w := by
  have key : ∀ d : Nat, d ≤ o → (wh / 2 ^ d < 2 * w) → ∃ n : Nat, n ≤ o ∧ w ≤ wh / 2 ^ n ∧ wh / 2 ^ n < 2 * w := by
    intro d
    induction d with
    | zero =>
      intro _ h
      exact ⟨0, Nat.zero_le _, by rw [Int.pow_zero, Int.ediv_one]; omega, h⟩
    | succ d ih =>
      intro hd h
      rcases (by omega : wh / 2 ^ d < 2 * w ∨ 2 * w ≤ wh / 2 ^ d) with q | q
      · exact ih (by omega) q
      · refine ⟨d + 1, hd, ?_, h⟩
        rw [Int.pow_succ, ← Int.ediv_ediv_of_nonneg (Int.le_of_lt (p2_pos d))]
        omega
  refine key o (Nat.le_refl o) ?_
  have hp := p2_pos o
  rw [p2_s] at h2
  have : wh / 2 ^ o < 2 := Int.ediv_lt_of_lt_mul hp (by omega)
  omega
theorem zlog_div {wh : Int} {o b : Nat} (h1 : 2 ^ o ≤ wh) (h2 : wh < 2 ^ (o + 1)) (hb : b ≤ o) : zlog (wh / 2 ^ b) = o - b := by
  have hp := p2_pos b
  have e1 : (2 : Int) ^ o = 2 ^ (o - b) * 2 ^ b := by rw [← Int.pow_add]; congr 1; omega
  have e2 : (2 : Int) ^ (o + 1) = 2 ^ (o - b + 1) * 2 ^ b := by rw [← Int.pow_add]; congr 1; omega
  exact zlog_is ((Int.le_ediv_iff_mul_le hp).mpr (by rw [← e1]; exact h1)) (Int.ediv_lt_of_lt_mul hp (by rw [← e2]; exact h2))
theorem wh_div {wh : Int} {b : Nat} (h : 0 ≤ wh) : 0 ≤ wh / 2 ^ b ∧ wh / 2 ^ b ≤ wh := ⟨Int.ediv_nonneg h (Int.le_of_lt (p2_pos b)), Int.ediv_le_self _ h⟩
theorem nb_or {a b : Int} {j : Nat} (h : 0 ≤ a ∧ a < 2 ^ j) (hj : (2 : Int) ^ j ≤ 2 ^ 13) : 0 ≤ a ∧ a < 2 ^ j ∧ 0 ≤ b % 2 ∧ a + b % 2 * 2 ^ j < 4294967296 := by
  refine ⟨h.1, h.2, by omega, ?_⟩
  rcases (by omega : b % 2 = 0 ∨ b % 2 = 1) with e | e
  · rw [e]; omega
  · rw [e]; omega
theorem wgt_b {p : Int} (h : -1 ≤ p ∧ p ≤ 65536) : 0 ≤ wgt p ∧ wgt p ≤ 65536 := by unfold wgt; split <;> omega
