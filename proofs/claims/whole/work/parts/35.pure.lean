theorem rb8_in {f : Nat → Int} {L k : Int} {j : Nat} (h : 0 ≤ k ∧ k < L) (hj : k = j) : rb8 f L k = f j % 256 := by
  unfold rb8
  rw [if_pos h, show k.toNat = j by omega]
/-! the code of a share -/
def zX (c : Nat) : Nat := 4 ^ (c / 3) - 1 + c % 3 * 4 ^ (c / 3)
def zN (c : Nat) : Nat := 2 * (c / 3 + 1)
theorem p4 (i : Nat) : 4 ^ i = 2 ^ (2 * i) := by rw [Nat.pow_mul]
theorem zP_s (V B i : Nat) : V + (4 ^ i - 1) * 2 ^ B + 3 * 2 ^ (B + 2 * i) = V + (4 ^ (i + 1) - 1) * 2 ^ B := by
  have h : 1 ≤ 4 ^ i := Nat.pow_pos (by decide)
  rw [p2c, ← p4, Nat.mul_comm (2 ^ B), ← Nat.mul_assoc, Nat.add_assoc, ← Nat.add_mul, Nat.pow_succ]
  congr 2
  omega
theorem zP_e (V B c i : Nat) (hi : i = c / 3) : V + (4 ^ i - 1) * 2 ^ B + (c - 3 * i) * 2 ^ (B + 2 * i) = V + zX c * 2 ^ B := by
  subst hi
  unfold zX
  rw [p2c, ← p4, Nat.mul_comm (2 ^ B), ← Nat.mul_assoc, Nat.add_assoc, ← Nat.add_mul, show c - 3 * (c / 3) = c % 3 by omega]
theorem rI_z {V B i : Nat} {L hd hn ov : Int} {f : Nat → Int} (h : rI (V + (4 ^ i - 1) * 2 ^ B + 3 * 2 ^ (B + 2 * i)) (B + 2 * i + 2) ((B + 2 * i + 2) / 8) L hd hn ov f) : rI (V + (4 ^ (i + 1) - 1) * 2 ^ B) (B + 2 * (i + 1)) ((B + 2 * (i + 1)) / 8) L hd hn ov f := by
  rw [zP_s] at h
  exact h
theorem rI_z0 {V B : Nat} {L hd hn ov : Int} {f : Nat → Int} (h : rI V B (B / 8) L hd hn ov f) : rI (V + (4 ^ 0 - 1) * 2 ^ B) (B + 2 * 0) ((B + 2 * 0) / 8) L hd hn ov f := by
  rw [Nat.pow_zero, Nat.sub_self, Nat.zero_mul]
  exact h
theorem rI_ze {V B c i : Nat} {L hd hn ov : Int} {f : Nat → Int} (hi : i = c / 3) (h : rI (V + (4 ^ i - 1) * 2 ^ B + (c - 3 * i) * 2 ^ (B + 2 * i)) (B + 2 * i + 2) ((B + 2 * i + 2) / 8) L hd hn ov f) : rI (V + zX c * 2 ^ B) (B + zN c) ((B + zN c) / 8) L hd hn ov f := by
  rw [zP_e V B c i hi] at h
  have e : B + zN c = B + 2 * i + 2 := by unfold zN; omega
  rw [e]
  exact h
theorem mO_z {V B i : Nat} {g : Nat → Int} (h : mO (V + (4 ^ i - 1) * 2 ^ B + 3 * 2 ^ (B + 2 * i)) (B + 2 * i + 2) g) : mO (V + (4 ^ (i + 1) - 1) * 2 ^ B) (B + 2 * (i + 1)) g := by
  rw [zP_s] at h
  exact h
theorem mO_z0 {V B : Nat} {g : Nat → Int} (h : mO V B g) : mO (V + (4 ^ 0 - 1) * 2 ^ B) (B + 2 * 0) g := by
  rw [Nat.pow_zero, Nat.sub_self, Nat.zero_mul]
  exact h
theorem mO_ze {V B c i : Nat} {g : Nat → Int} (hi : i = c / 3) (h : mO (V + (4 ^ i - 1) * 2 ^ B + (c % 3) * 2 ^ (B + 2 * i)) (B + 2 * i + 2) g) : mO (V + zX c * 2 ^ B) (B + zN c) g := by
  rw [show c % 3 = c - 3 * i by omega, zP_e V B c i hi] at h
  have e : B + zN c = B + 2 * i + 2 := by unfold zN; omega
  rw [e]
  exact h
def nzF (gP : Nat → Int) : Nat → Nat → Nat
  | 0, a => a
  | n + 1, a => if a < 256 ∧ gP a = 0 then nzF gP n (a + 1) else a
def nz (gP : Nat → Int) (a : Nat) : Nat := nzF gP 256 a
theorem nzF_is {gP : Nat → Int} {b : Nat} (hb : b ≤ 256) (he : b = 256 ∨ gP b ≠ 0) : ∀ (n a : Nat), a ≤ b → b - a ≤ n → (∀ k, a ≤ k → k < b → gP k = 0) → nzF gP n a = b
  | 0, a, h1, h2, _ => by
    show a = b
    omega
  | n + 1, a, h1, h2, h3 => by
    show (if a < 256 ∧ gP a = 0 then nzF gP n (a + 1) else a) = b
    by_cases e : a = b
    · subst e
      rw [if_neg (fun q => by rcases he with q2 | q2
                              · omega
                              · exact q2 q.2)]
    · rw [if_pos ⟨by omega, h3 a (Nat.le_refl a) (by omega)⟩]
      exact nzF_is hb he n (a + 1) (by omega) (by omega) (fun k q1 q2 => h3 k (by omega) q2)
theorem nz_is {gP : Nat → Int} {a b : Nat} (h : a ≤ b ∧ b ≤ 256 ∧ (∀ k, a ≤ k → k < b → gP k = 0) ∧ (b = 256 ∨ gP b ≠ 0)) : nz gP a = b := nzF_is h.2.1 h.2.2.2 256 a h.1 (by omega) h.2.2.1
def shC (gP : Nat → Int) : Nat → Nat → Int → Nat → Nat → Nat × Nat
  | 0, _, _, V, B => (V, B)
  | n + 1, y, R, V, B =>
    if 0 < R ∧ y < 256 then
      if gP y = 0 then shC gP n (nz gP (y + 1)) (R - wgt (gP y)) (V + numX R (gP y + 1).toNat * 2 ^ B + zX (nz gP (y + 1) - (y + 1)) * 2 ^ (B + numN R (gP y + 1).toNat)) (B + numN R (gP y + 1).toNat + zN (nz gP (y + 1) - (y + 1)))
      else shC gP n (y + 1) (R - wgt (gP y)) (V + numX R (gP y + 1).toNat * 2 ^ B) (B + numN R (gP y + 1).toNat)
    else (V, B)
theorem shC_0 {gP : Nat → Int} {n y V B : Nat} {R : Int} (h : ¬ (0 < R ∧ y < 256)) : shC gP n y R V B = (V, B) := by
  cases n with
  | zero => rfl
  | succ n => exact if_neg h
theorem shC_n {gP : Nat → Int} {n y V B : Nat} {R : Int} (h : 0 < R ∧ y < 256) (h0 : gP y ≠ 0) : shC gP (n + 1) y R V B = shC gP n (y + 1) (R - wgt (gP y)) (V + numX R (gP y + 1).toNat * 2 ^ B) (B + numN R (gP y + 1).toNat) := by
  show (if 0 < R ∧ y < 256 then _ else _) = _
  rw [if_pos h, if_neg h0]
theorem shC_z {gP : Nat → Int} {n y b V B : Nat} {R : Int} (h : 0 < R ∧ y < 256) (h0 : gP y = 0) (hb : nz gP (y + 1) = b) : shC gP (n + 1) y R V B = shC gP n b (R - wgt (gP y)) (V + numX R (gP y + 1).toNat * 2 ^ B + zX (b - (y + 1)) * 2 ^ (B + numN R (gP y + 1).toNat)) (B + numN R (gP y + 1).toNat + zN (b - (y + 1))) := by
  show (if 0 < R ∧ y < 256 then _ else _) = _
  rw [if_pos h, if_pos h0, hb]
/-- what is left of a code that is being written -/
def shR (gP : Nat → Int) (T : Nat × Nat) (y : Nat) (R : Int) (V B : Nat) : Prop := ∃ n : Nat, 257 ≤ n + y ∧ shC gP n y R V B = T
theorem shR_e {gP : Nat → Int} {T : Nat × Nat} {y V B : Nat} {R : Int} (h : shR gP T y R V B) (he : ¬ (0 < R ∧ y < 256)) : T = (V, B) := by
  obtain ⟨n, _, h2⟩ := h
  rw [← h2, shC_0 he]
theorem shR_n {gP : Nat → Int} {T : Nat × Nat} {y V B : Nat} {R : Int} (h : shR gP T y R V B) (hy : 0 < R ∧ y < 256) (h0 : gP y ≠ 0) : shR gP T (y + 1) (R - wgt (gP y)) (V + numX R (gP y + 1).toNat * 2 ^ B) (B + numN R (gP y + 1).toNat) := by
  obtain ⟨n, h1, h2⟩ := h
  cases n with
  | zero => omega
  | succ n => exact ⟨n, by omega, by rw [← shC_n hy h0]; exact h2⟩
theorem shR_z {gP : Nat → Int} {T : Nat × Nat} {y b V B : Nat} {R : Int} (h : shR gP T y R V B) (hy : 0 < R ∧ y < 256) (h0 : gP y = 0) (hb : y + 1 ≤ b ∧ b ≤ 256 ∧ (∀ k, y + 1 ≤ k → k < b → gP k = 0) ∧ (b = 256 ∨ gP b ≠ 0)) : shR gP T b (R - wgt (gP y)) (V + numX R (gP y + 1).toNat * 2 ^ B + zX (b - (y + 1)) * 2 ^ (B + numN R (gP y + 1).toNat)) (B + numN R (gP y + 1).toNat + zN (b - (y + 1))) := by
  obtain ⟨n, h1, h2⟩ := h
  cases n with
  | zero => omega
  | succ n => exact ⟨n, by omega, by rw [← shC_z hy h0 (nz_is hb)]; exact h2⟩
/-- the whole code of a share -/
def dC (gP : Nat → Int) (o : Nat) : Nat × Nat := shC gP 257 0 (2 ^ o) (o - 5) 4
theorem dC_0 {gP : Nat → Int} {o : Nat} : shR gP (dC gP o) 0 (2 ^ o) (o - 5) 4 := ⟨257, by omega, rfl⟩
/-! weights -/
theorem cum_zero {gP : Nat → Int} {a : Nat} : ∀ {b : Nat}, a ≤ b → (∀ k, a ≤ k → k < b → gP k = 0) → cum gP b = cum gP a
  | 0, h, _ => by rw [show a = 0 by omega]
  | b + 1, h, hz => by
    by_cases e : a = b + 1
    · rw [e]
    · show cum gP b + wgt (gP b) = _
      rw [hz b (by omega) (by omega), cum_zero (by omega) (fun k q1 q2 => hz k q1 (by omega))]
      exact Int.add_zero _
theorem cum_mono {gP : Nat → Int} (hp : ∀ k, k < 256 → -1 ≤ gP k ∧ gP k ≤ 65536) {a : Nat} : ∀ {b : Nat}, a ≤ b → b ≤ 256 → cum gP a ≤ cum gP b
  | 0, h, _ => by rw [show a = 0 by omega]; exact Int.le_refl _
  | b + 1, h, hb => by
    by_cases e : a = b + 1
    · rw [e]; exact Int.le_refl _
    · have h1 := cum_mono hp (a := a) (b := b) (by omega) (by omega)
      have h2 := wgt_b (hp b (by omega))
      show _ ≤ cum gP b + wgt (gP b)
      omega
theorem cum_lo {gP : Nat → Int} (hp : ∀ k, k < 256 → -1 ≤ gP k ∧ gP k ≤ 65536) {b : Nat} (hb : b ≤ 256) : 0 ≤ cum gP b := cum_mono hp (a := 0) (Nat.zero_le _) hb
theorem cum_fit {gP : Nat → Int} (hp : ∀ k, k < 256 → -1 ≤ gP k ∧ gP k ≤ 65536) {y : Nat} (hy : y < 256) : cum gP y + wgt (gP y) ≤ cum gP 256 := cum_mono hp (a := y + 1) (b := 256) (by omega) (by omega)
theorem wgt_pt {p R : Int} (h : -1 ≤ p) (hw : wgt p ≤ R) (hR : 1 ≤ R) : 0 ≤ p + 1 ∧ p + 1 ≤ R + 1 := by
  unfold wgt at hw
  split at hw <;> omega
theorem zr_step {gP : Nat → Int} {a b : Nat} (h : ∀ k, a ≤ k → k < b → gP k = 0) (h0 : gP b = 0) : ∀ k, a ≤ k → k < b + 1 → gP k = 0 := by
  intro k q1 q2
  by_cases e : k = b
  · rw [e]; exact h0
  · exact h k q1 (by omega)
theorem rI_0 {f : Nat → Int} (h : ∀ k, -128 ≤ f k ∧ f k < 128) : rI 0 0 (0 / 8) 0 0 0 0 f := ⟨by decide, by decide, rfl, rfl, rfl, rfl, fun k hk => absurd hk (by rw [show cap (0 / 8) = 0 from rfl]; omega), h⟩
theorem rI_first {x : Nat} {L hd hn ov : Int} {f : Nat → Int} (h : rI (0 + x * 2 ^ 0) (0 + 4) ((0 + 4) / 8) L hd hn ov f) : rI x 4 (4 / 8) L hd hn ov f := by
  rw [Nat.pow_zero, Nat.mul_one, Nat.zero_add] at h
  exact h
theorem R_n {R : Int} {o y : Nat} {gP : Nat → Int} (h : R = 2 ^ o - cum gP y) : R - wgt (gP y) = 2 ^ o - cum gP (y + 1) := by
  show _ = 2 ^ o - (cum gP y + wgt (gP y))
  omega
theorem R_z {R : Int} {o y b : Nat} {gP : Nat → Int} (h : R = 2 ^ o - cum gP y) (hb : y + 1 ≤ b ∧ b ≤ 256 ∧ (∀ k, y + 1 ≤ k → k < b → gP k = 0) ∧ (b = 256 ∨ gP b ≠ 0)) : R - wgt (gP y) = 2 ^ o - cum gP b := by
  rw [R_n h, cum_zero hb.1 hb.2.2.1]
theorem mO_first {x : Nat} {g : Nat → Int} (h : mO (0 + x * 2 ^ 0) (0 + 4) g) : mO x 4 g := by
  rw [Nat.pow_zero, Nat.mul_one, Nat.zero_add] at h
  exact h
theorem numN_le {R : Int} {v : Nat} (h1 : 1 ≤ R) (h2 : R ≤ 4096) : numN R v ≤ 13 := by
  have := numK_le h1 h2
  unfold numN
  split <;> omega
