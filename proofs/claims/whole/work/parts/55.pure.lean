/-! bits of a row -/
def bt (b : Nat → Int) (q : Nat) : Int := b (q / 8) / 2 ^ (q % 8) % 2
theorem bt_01 (b : Nat → Int) (q : Nat) : bt b q = 0 ∨ bt b q = 1 := by unfold bt; omega
theorem nbI_s (b : Nat → Int) (q n : Nat) : nbI b q (n + 1) = nbI b q n + bt b (q + n) * 2 ^ n := rfl
theorem nbI_1 (b : Nat → Int) (q : Nat) : nbI b q 1 = bt b q := by
  rw [nbI_s]
  show 0 + bt b (q + 0) * 2 ^ 0 = _
  rw [Nat.add_zero, Int.pow_zero, Int.mul_one, Int.zero_add]
theorem ed_pow (x : Int) (n : Nat) : x % 2 ^ (n + 1) = x % 2 ^ n + x / 2 ^ n % 2 * 2 ^ n := by
  have h1 := Int.emod_add_mul_ediv x (2 ^ n)
  have h2 := Int.emod_add_mul_ediv (x / 2 ^ n) 2
  have h3 := Int.emod_nonneg x (Int.ne_of_gt (p2_pos n))
  have h4 := Int.emod_lt_of_pos x (p2_pos n)
  have e1 : x = x % 2 ^ n + x / 2 ^ n % 2 * 2 ^ n + 2 ^ (n + 1) * (x / 2 ^ n / 2) := by
    have e2 : 2 ^ n * (x / 2 ^ n) = 2 ^ n * (x / 2 ^ n % 2) + 2 ^ n * (2 * (x / 2 ^ n / 2)) := by rw [← Int.mul_add, h2]
    rw [p2_s, Int.mul_comm 2 (2 ^ n), Int.mul_assoc, Int.mul_comm (x / 2 ^ n % 2)]
    omega
  have h5 : 0 ≤ x % 2 ^ n + x / 2 ^ n % 2 * 2 ^ n ∧ x % 2 ^ n + x / 2 ^ n % 2 * 2 ^ n < 2 ^ (n + 1) := by
    rw [p2_s]
    rcases (by omega : x / 2 ^ n % 2 = 0 ∨ x / 2 ^ n % 2 = 1) with e | e
    · rw [e]; omega
    · rw [e]; omega
  have e3 := Int.add_mul_emod_self_left (x % 2 ^ n + x / 2 ^ n % 2 * 2 ^ n) (2 ^ (n + 1)) (x / 2 ^ n / 2)
  rw [← e1, Int.emod_eq_of_lt h5.1 h5.2] at e3
  exact e3
theorem win0 {a b c : Int} (ha : 0 ≤ a ∧ a < 256) {q : Nat} (hq : q < 8) : (a + b * 256 + c * 65536) / 2 ^ q % 2 = a / 2 ^ q % 2 := by
  rcases (by omega : q = 0 ∨ q = 1 ∨ q = 2 ∨ q = 3 ∨ q = 4 ∨ q = 5 ∨ q = 6 ∨ q = 7) with rfl | rfl | rfl | rfl | rfl | rfl | rfl | rfl <;> omega
theorem win1 {a b c : Int} (ha : 0 ≤ a ∧ a < 256) (hb : 0 ≤ b ∧ b < 256) {q : Nat} (hq : q < 8) : (a + b * 256 + c * 65536) / 2 ^ (q + 8) % 2 = b / 2 ^ q % 2 := by
  rcases (by omega : q = 0 ∨ q = 1 ∨ q = 2 ∨ q = 3 ∨ q = 4 ∨ q = 5 ∨ q = 6 ∨ q = 7) with rfl | rfl | rfl | rfl | rfl | rfl | rfl | rfl <;> omega
theorem win2 {a b c : Int} (ha : 0 ≤ a ∧ a < 256) (hb : 0 ≤ b ∧ b < 256) {q : Nat} (hq : q < 8) : (a + b * 256 + c * 65536) / 2 ^ (q + 16) % 2 = c / 2 ^ q % 2 := by
  rcases (by omega : q = 0 ∨ q = 1 ∨ q = 2 ∨ q = 3 ∨ q = 4 ∨ q = 5 ∨ q = 6 ∨ q = 7) with rfl | rfl | rfl | rfl | rfl | rfl | rfl | rfl <;> omega
theorem win_bit {f : Nat → Int} {L a t : Int} {j : Nat} (ha : 0 ≤ a ∧ 0 ≤ t) (hj : t % 8 + j < 24) (hL : t + j < 8 * (L - a)) : (rb8 f L (a + t / 8) + rb8 f L (a + t / 8 + 1) * 256 + rb8 f L (a + t / 8 + 2) * 65536) / 2 ^ ((t % 8).toNat + j) % 2 = bt (fun k => f k % 256) (8 * a.toNat + t.toNat + j) := by
  have b0 : 0 ≤ rb8 f L (a + t / 8) ∧ rb8 f L (a + t / 8) < 256 := ⟨rb8_lo _ _ _, rb8_hi _ _ _⟩
  have b1 : 0 ≤ rb8 f L (a + t / 8 + 1) ∧ rb8 f L (a + t / 8 + 1) < 256 := ⟨rb8_lo _ _ _, rb8_hi _ _ _⟩
  show _ = f ((8 * a.toNat + t.toNat + j) / 8) % 256 / 2 ^ ((8 * a.toNat + t.toNat + j) % 8) % 2
  rcases (by omega : (t % 8).toNat + j < 8 ∨ (8 ≤ (t % 8).toNat + j ∧ (t % 8).toNat + j < 16) ∨ 16 ≤ (t % 8).toNat + j) with z | z | z
  · rw [win0 b0 z, rb8_in (j := (8 * a.toNat + t.toNat + j) / 8) (by omega) (by omega), show (8 * a.toNat + t.toNat + j) % 8 = (t % 8).toNat + j by omega]
  · obtain ⟨q, hq⟩ : ∃ q : Nat, (t % 8).toNat + j = q + 8 := ⟨(t % 8).toNat + j - 8, by omega⟩
    rw [hq, win1 b0 b1 (by omega), rb8_in (j := (8 * a.toNat + t.toNat + j) / 8) (by omega) (by omega), show (8 * a.toNat + t.toNat + j) % 8 = q by omega]
  · obtain ⟨q, hq⟩ : ∃ q : Nat, (t % 8).toNat + j = q + 16 := ⟨(t % 8).toNat + j - 16, by omega⟩
    rw [hq, win2 b0 b1 (by omega), rb8_in (j := (8 * a.toNat + t.toNat + j) / 8) (by omega) (by omega), show (8 * a.toNat + t.toNat + j) % 8 = q by omega]
theorem rNum_nb {f : Nat → Int} {L a t : Int} (ha : 0 ≤ a ∧ 0 ≤ t) : ∀ {n : Nat}, n ≤ 13 → t + n ≤ 8 * (L - a) → rNum f L a t n = nbI (fun k => f k % 256) (8 * a.toNat + t.toNat) n
  | 0, _, _ => by
    show _ % (2 : Int) ^ 0 = 0
    rw [Int.pow_zero, Int.emod_one]
  | n + 1, h1, h2 => by
    have ih := rNum_nb ha (f := f) (L := L) (n := n) (by omega) (by omega)
    rw [nbI_s, ← ih]
    unfold rNum
    rw [ed_pow, Int.ediv_ediv_of_nonneg (Int.le_of_lt (p2_pos _)), ← Int.pow_add, win_bit ha (by omega) (by omega)]
/-- a number of a written share is taken: the number, how many bits -/
def tkZ (b : Nat → Int) (q : Nat) (av R : Int) : Int := if av < numK R then -1 else if nbI b q (numK R) < numM R then nbI b q (numK R) else if av < numK R + 1 then -1 else if bt b (q + numK R) = 0 then nbI b q (numK R) else nbI b q (numK R) + numT R - numM R
def tkU (b : Nat → Int) (q : Nat) (R : Int) : Nat := if nbI b q (numK R) < numM R then numK R else numK R + 1
theorem tk_0 {b : Nat → Int} {q : Nat} {av R : Int} (h : av < numK R) : tkZ b q av R = -1 := if_pos h
theorem tk_1 {b : Nat → Int} {q : Nat} {av R : Int} (h : (numK R : Int) ≤ av) (h2 : nbI b q (numK R) < numM R) : tkZ b q av R = nbI b q (numK R) ∧ tkU b q R = numK R := by
  unfold tkZ tkU
  rw [if_neg (by omega), if_pos h2, if_pos h2]
  exact ⟨rfl, rfl⟩
theorem tk_2 {b : Nat → Int} {q : Nat} {av R : Int} (h : (numK R : Int) ≤ av) (h2 : numM R ≤ nbI b q (numK R)) (h3 : av < numK R + 1) : tkZ b q av R = -1 := by
  unfold tkZ
  rw [if_neg (show ¬ av < numK R by omega), if_neg (show ¬ nbI b q (numK R) < numM R by omega), if_pos h3]
theorem tk_3 {b : Nat → Int} {q : Nat} {av R : Int} (h2 : numM R ≤ nbI b q (numK R)) (h3 : numK R + 1 ≤ av) (h4 : bt b (q + numK R) = 0) : tkZ b q av R = nbI b q (numK R) ∧ tkU b q R = numK R + 1 := by
  unfold tkZ tkU
  rw [if_neg (show ¬ av < numK R by omega), if_neg (show ¬ nbI b q (numK R) < numM R by omega), if_neg (show ¬ av < numK R + 1 by omega), if_pos h4, if_neg (show ¬ nbI b q (numK R) < numM R by omega)]
  exact ⟨rfl, rfl⟩
theorem tk_4 {b : Nat → Int} {q : Nat} {av R : Int} (h2 : numM R ≤ nbI b q (numK R)) (h3 : numK R + 1 ≤ av) (h4 : bt b (q + numK R) ≠ 0) : tkZ b q av R = nbI b q (numK R) + numT R - numM R ∧ tkU b q R = numK R + 1 := by
  unfold tkZ tkU
  rw [if_neg (show ¬ av < numK R by omega), if_neg (show ¬ nbI b q (numK R) < numM R by omega), if_neg (show ¬ av < numK R + 1 by omega), if_neg h4, if_neg (show ¬ nbI b q (numK R) < numM R by omega)]
  exact ⟨rfl, rfl⟩
def tkP (b : Nat → Int) (q : Nat) (av R : Int) (z t t1 : Int) : Prop := z = tkZ b q av R ∧ (z ≠ -1 → 0 ≤ z ∧ z ≤ R + 1 ∧ t1 = t + (tkU b q R : Int)) ∧ t ≤ t1 ∧ t1 ≤ t + 13
theorem tk_m1 {b : Nat → Int} {q k : Nat} {av R v t t1 : Int} (h : tkZ b q av R = v ∧ tkU b q R = k) (h0 : 0 ≤ v ∧ v ≤ R + 1) (h1 : t1 = t + k) (hk : k ≤ 13) : tkP b q av R v t t1 := ⟨h.1.symm, fun _ => ⟨h0.1, h0.2, by rw [h.2]; exact h1⟩, by omega, by omega⟩
theorem tk_m3 {b : Nat → Int} {q k : Nat} {av R v t t1 : Int} (h : tkZ b q av R = v ∧ tkU b q R = k) (h0 : 0 ≤ v ∧ v ≤ R + 1) (h1 : t1 = t + k) (hk : k ≤ 13) : tkP b q av R v t t1 := tk_m1 h h0 h1 hk
theorem nb_sp (b : Nat → Int) (q : Nat) (R : Int) : (bt b (q + numK R) = 0 ∧ nbI b q (numK R + 1) = nbI b q (numK R)) ∨ (bt b (q + numK R) = 1 ∧ nbI b q (numK R + 1) = nbI b q (numK R) + numT R) := by
  have h := nbI_s b q (numK R)
  rcases bt_01 b (q + numK R) with z | z
  · rw [z] at h
    exact Or.inl ⟨z, by omega⟩
  · rw [z, Int.one_mul] at h
    exact Or.inr ⟨z, h⟩
/-! zeros that are told -/
def bz (b : Nat → Int) (q0 : Nat) (A : Int) (last : Nat) : Nat → Nat → Nat → Int × Nat
  | 0, t, s => (s, t)
  | n + 1, t, s => if s ≤ last then (if A < (t : Int) + 2 then (-1, t) else if nbI b (q0 + t) 2 < 3 then ((s : Int) + nbI b (q0 + t) 2, t + 2) else bz b q0 A last n (t + 2) (s + 3)) else (s, t)
def bzR (b : Nat → Int) (q0 : Nat) (A : Int) (last : Nat) (T : Int × Nat) (t s : Nat) : Prop := ∃ n : Nat, 256 ≤ n + s ∧ bz b q0 A last n t s = T
section BZ
variable {b : Nat → Int} {q0 last t s : Nat} {A : Int} {T : Int × Nat}
theorem bzR_0 : bzR b q0 A last (bz b q0 A last 256 t s) t s := ⟨256, by omega, rfl⟩
theorem bzR_out (h : bzR b q0 A last T t s) (hs : last < s) : T = ((s : Int), t) := by
  obtain ⟨n, _, h2⟩ := h
  rw [← h2]
  cases n with
  | zero => rfl
  | succ n => exact if_neg (by omega)
theorem bzR_lack (h : bzR b q0 A last T t s) (hl : last ≤ 255) (hs : s ≤ last) (hA : A < (t : Int) + 2) : T = (-1, t) := by
  obtain ⟨n, h1, h2⟩ := h
  cases n with
  | zero => omega
  | succ n =>
    rw [← h2]
    show (if s ≤ last then _ else _) = _
    rw [if_pos hs, if_pos hA]
theorem bzR_ret (h : bzR b q0 A last T t s) (hl : last ≤ 255) (hs : s ≤ last) (hA : (t : Int) + 2 ≤ A) (hn : nbI b (q0 + t) 2 < 3) : T = ((s : Int) + nbI b (q0 + t) 2, t + 2) := by
  obtain ⟨n, h1, h2⟩ := h
  cases n with
  | zero => omega
  | succ n =>
    rw [← h2]
    show (if s ≤ last then _ else _) = _
    rw [if_pos hs, if_neg (by omega), if_pos hn]
theorem bzR_go (h : bzR b q0 A last T t s) (hl : last ≤ 255) (hs : s ≤ last) (hA : (t : Int) + 2 ≤ A) (hn : 3 ≤ nbI b (q0 + t) 2) : bzR b q0 A last T (t + 2) (s + 3) := by
  obtain ⟨n, h1, h2⟩ := h
  cases n with
  | zero => omega
  | succ n =>
    refine ⟨n, by omega, ?_⟩
    rw [← h2]
    show _ = (if s ≤ last then _ else _)
    rw [if_pos hs, if_neg (by omega), if_neg (by omega)]
end BZ
/-- what the reference answers for it -/
def bzM (last : Nat) (c : Int) : Int := if c = -1 then -3 else if (last : Int) < c then -2 else c - 1
section BZM
variable {y x : Nat} {T : Int × Nat} {b1 A : Int}
theorem bz_m3 {t : Nat} (h : T = (-1, t)) : (-3 : Int) = bzM y T.1 ∧ ((0 : Int) ≤ -3 → b1 = (T.2 : Int) ∧ b1 ≤ A ∧ (x : Int) ≤ -3 ∧ (-3 : Int) < y) := by
  rw [h]
  exact ⟨(if_pos rfl).symm, fun q => absurd q (by decide)⟩
theorem bz_m2 {t : Nat} {c : Int} (h : T = (c, t)) (hc : (y : Int) < c) : (-2 : Int) = bzM y T.1 ∧ ((0 : Int) ≤ -2 → b1 = (T.2 : Int) ∧ b1 ≤ A ∧ (x : Int) ≤ -2 ∧ (-2 : Int) < y) := by
  rw [h]
  refine ⟨?_, fun q => absurd q (by decide)⟩
  show _ = (if c = -1 then (-3 : Int) else if (y : Int) < c then -2 else c - 1)
  rw [if_neg (by omega), if_pos hc]
theorem bz_m0 {t : Nat} {c z : Int} (h : T = (c, t)) (hc : c ≤ (y : Int)) (hz : z = c - 1 ∧ 0 ≤ z) (hb : b1 = (t : Int) ∧ b1 ≤ A) (hx : (x : Int) ≤ z ∧ z < y) : z = bzM y T.1 ∧ (0 ≤ z → b1 = (T.2 : Int) ∧ b1 ≤ A ∧ (x : Int) ≤ z ∧ z < y) := by
  rw [h]
  refine ⟨?_, fun _ => ⟨hb.1, hb.2, hx.1, hx.2⟩⟩
  show _ = (if c = -1 then (-3 : Int) else if (y : Int) < c then -2 else c - 1)
  rw [if_neg (by omega), if_neg (by omega)]
  exact hz.1
end BZM
