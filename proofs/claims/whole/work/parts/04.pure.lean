/-- how many of N bytes a row holds -/
def cap (N : Nat) : Nat := min N 6000
theorem cap_spec (N : Nat) : (N ≤ 6000 ∧ cap N = N) ∨ (6000 < N ∧ cap N = 6000) := by
  unfold cap
  rcases Nat.lt_or_ge 6000 N with h | h
  · exact Or.inr ⟨h, Nat.min_eq_right (Nat.le_of_lt h)⟩
  · exact Or.inl ⟨h, Nat.min_eq_left h⟩
/-! a row that bits are put behind: V, of B bits, is what was put; N bytes of it stand in the row (or would) -/
def rI (V B N : Nat) (L hd hn ov : Int) (f : Nat → Int) : Prop :=
  V < 2 ^ B ∧ 8 * N ≤ B ∧ hn = ((B - 8 * N : Nat) : Int) ∧ hd = ((V / 2 ^ (8 * N) : Nat) : Int) ∧ L = (cap N : Int) ∧ ov = (if N ≤ 6000 then 0 else 1) ∧ (∀ k, k < cap N → f k % 256 = ((V / 2 ^ (8 * k) % 256 : Nat) : Int)) ∧ ∀ k, -128 ≤ f k ∧ f k < 128
theorem rI_put {V B N x n : Nat} {L hd hn ov : Int} {f : Nat → Int} (h : rI V B N L hd hn ov f) (hx : x < 2 ^ n) : rI (V + x * 2 ^ B) (B + n) N L (hd + (x : Int) * 2 ^ (B - 8 * N)) (hn + n) ov f := by
  obtain ⟨h1, h2, h3, h4, h5, h6, h7, h8⟩ := h
  refine ⟨?_, by omega, by rw [h3]; omega, ?_, h5, h6, ?_, h8⟩
  · have e : (x + 1) * 2 ^ B ≤ 2 ^ n * 2 ^ B := Nat.mul_le_mul_right _ hx
    rw [Nat.add_mul, Nat.one_mul] at e
    rw [Nat.pow_add, Nat.mul_comm (2 ^ B)]
    omega
  · have e : 2 ^ B = 2 ^ (8 * N) * 2 ^ (B - 8 * N) := by rw [← Nat.pow_add]; congr 1; omega
    have e2 : V + x * 2 ^ B = V + 2 ^ (8 * N) * (x * 2 ^ (B - 8 * N)) := by rw [e, Nat.mul_left_comm]
    rw [h4, e2, Nat.add_mul_div_left _ _ (Nat.pow_pos (by decide)), Int.natCast_add, Int.natCast_mul, Int.natCast_pow]
    rfl
  · intro k hk
    have hc := cap_spec N
    have hk2 : 8 * k + 8 ≤ B := by omega
    have e : 2 ^ B = 2 ^ (8 * k) * (256 * 2 ^ (B - 8 * k - 8)) := by
      rw [show (256 : Nat) = 2 ^ 8 from rfl, ← Nat.pow_add, ← Nat.pow_add]; congr 1; omega
    have e2 : V + x * 2 ^ B = V + 2 ^ (8 * k) * (256 * (x * 2 ^ (B - 8 * k - 8))) := by
      rw [e, Nat.mul_left_comm, Nat.mul_left_comm x 256]
    rw [h7 k hk, e2, Nat.add_mul_div_left _ _ (Nat.pow_pos (by decide)), Nat.add_mul_mod_self_left]
def rAdd (L ov : Int) (f : Nat → Int) (b : Int) (L' ov' : Int) (f' : Nat → Int) : Prop := (L < 6000 ∧ L' = L + 1 ∧ ov' = ov ∧ f' = zu f L.toNat (b.bmod 256)) ∨ (6000 ≤ L ∧ L' = L ∧ ov' = 1 ∧ f' = f)
theorem rI_hd {V B N : Nat} {L hd hn ov : Int} {f : Nat → Int} (h : rI V B N L hd hn ov f) : 0 ≤ hd ∧ hd < 2 ^ (B - 8 * N) ∧ 0 ≤ hn ∧ 0 ≤ L ∧ L ≤ 6000 := by
  obtain ⟨h1, h2, h3, h4, h5, h6, h7, h8⟩ := h
  have hc := cap_spec N
  refine ⟨by rw [h4]; exact Int.natCast_nonneg _, ?_, by omega, by omega, by omega⟩
  have e : 2 ^ B = 2 ^ (B - 8 * N) * 2 ^ (8 * N) := by rw [← Nat.pow_add]; congr 1; omega
  have e2 : V / 2 ^ (8 * N) < 2 ^ (B - 8 * N) := (Nat.div_lt_iff_lt_mul (Nat.pow_pos (by decide))).mpr (by rw [← e]; exact h1)
  rw [h4]
  have e3 : ((2 ^ (B - 8 * N) : Nat) : Int) = 2 ^ (B - 8 * N) := by rw [Int.natCast_pow]; rfl
  rw [← e3]
  omega
theorem rI_step {V B N : Nat} {L hd hn ov L' ov' : Int} {f f' : Nat → Int} (h : rI V B N L hd hn ov f) (hn8 : 8 ≤ hn) (ha : rAdd L ov f (hd % 256) L' ov' f') : rI V B (N + 1) L' (hd / 256) (hn - 8) ov' f' := by
  obtain ⟨h1, h2, h3, h4, h5, h6, h7, h8⟩ := h
  have ed : hd / 256 = ((V / 2 ^ (8 * (N + 1)) : Nat) : Int) := by
    rw [h4, show 8 * (N + 1) = 8 * N + 8 by omega, Nat.pow_add, ← Nat.div_div_eq_div_mul, Int.natCast_ediv]
    rfl
  have em : hd % 256 = ((V / 2 ^ (8 * N) % 256 : Nat) : Int) := by rw [h4, Int.natCast_emod]; rfl
  have hc := cap_spec N
  have hc1 := cap_spec (N + 1)
  rcases ha with ⟨a1, rfl, rfl, rfl⟩ | ⟨a1, rfl, rfl, rfl⟩
  · have hN : N < 6000 := by omega
    refine ⟨h1, by omega, by omega, ed, by omega, ?_, ?_, ?_⟩
    · rw [h6, if_pos (by omega), if_pos (by omega)]
    · intro k hk
      by_cases hkN : k = N
      · subst hkN
        rw [show L.toNat = k by omega, zu_s, iZ_bmod, em]
        omega
      · rw [zu_n (by omega)]
        exact h7 k (by omega)
    · intro k
      by_cases hk : k = L.toNat
      · subst hk
        rw [zu_s]
        exact ⟨bm_lo _, bm_hi _⟩
      · rw [zu_n hk]
        exact h8 k
  · have hN : 6000 ≤ N := by omega
    refine ⟨h1, by omega, by omega, ed, by omega, ?_, ?_, h8⟩
    · rw [if_neg (by omega)]
    · intro k hk
      exact h7 k (by omega)
theorem rI_done {V B N : Nat} {L hd hn ov : Int} {f : Nat → Int} (h : rI V B N L hd hn ov f) (h8 : hn < 8) : N = B / 8 := by
  obtain ⟨h1, h2, h3, h4, h5, h6, h7, h8⟩ := h
  omega
/-- byte k of a row of L bytes, 0 outside -/
def rb8 (f : Nat → Int) (L k : Int) : Int := if 0 ≤ k ∧ k < L then f k.toNat % 256 else 0
theorem rb8_lo (f : Nat → Int) (L k : Int) : 0 ≤ rb8 f L k := by unfold rb8; split <;> omega
theorem rb8_hi (f : Nat → Int) (L k : Int) : rb8 f L k < 256 := by unfold rb8; split <;> omega
def rNum (f : Nat → Int) (L a b : Int) (n : Nat) : Int := ((rb8 f L (a + b / 8) + rb8 f L (a + b / 8 + 1) * 256 + rb8 f L (a + b / 8 + 2) * 65536) / 2 ^ (b % 8).toNat) % 2 ^ n
/-- the greatest k with 2^k not above x -/
def zlog (x : Int) : Nat := Nat.log2 x.toNat
theorem zlog_lo {x : Int} (h : 0 < x) : (2 : Int) ^ zlog x ≤ x := by
  have h1 := Nat.log2_self_le (n := x.toNat) (by omega)
  have e : ((2 ^ zlog x : Nat) : Int) = 2 ^ zlog x := by rw [Int.natCast_pow]; rfl
  rw [← e]
  unfold zlog
  omega
theorem zlog_hi (x : Int) : x < (2 : Int) ^ (zlog x + 1) := by
  have h1 := Nat.lt_log2_self (n := x.toNat)
  have e : ((2 ^ (zlog x + 1) : Nat) : Int) = 2 ^ (zlog x + 1) := by rw [Int.natCast_pow]; rfl
  rw [← e]
  unfold zlog
  omega
theorem zlog_is {x : Int} {k : Nat} (h1 : (2 : Int) ^ k ≤ x) (h2 : x < (2 : Int) ^ (k + 1)) : zlog x = k := by
  have e : ((2 ^ k : Nat) : Int) = 2 ^ k := by rw [Int.natCast_pow]; rfl
  have e2 : ((2 ^ (k + 1) : Nat) : Int) = 2 ^ (k + 1) := by rw [Int.natCast_pow]; rfl
  have hp : 0 < 2 ^ k := Nat.pow_pos (by decide)
  rw [← e] at h1
  rw [← e2] at h2
  exact (Nat.log2_eq_iff (by omega)).mpr ⟨by omega, by omega⟩
/-- a symbol's weight -/
def wgt (p : Int) : Int := if p = -1 then 1 else p
theorem p2_le {k m : Nat} (h : k ≤ m) : (2 : Int) ^ k ≤ 2 ^ m := by
  have := Nat.pow_le_pow_right (n := 2) (by decide) h
  have e : ((2 ^ k : Nat) : Int) = 2 ^ k := by rw [Int.natCast_pow]; rfl
  have e2 : ((2 ^ m : Nat) : Int) = 2 ^ m := by rw [Int.natCast_pow]; rfl
  rw [← e, ← e2]
  omega
theorem rI_small {V B N : Nat} {L hd hn ov : Int} {f : Nat → Int} (h : rI V B N L hd hn ov f) (h20 : hn ≤ 20) : hd < 1048576 := by
  have h1 := rI_hd h
  have h3 := h.2.2.1
  have := p2_le (k := B - 8 * N) (m := 20) (by omega)
  omega
theorem rI_or {V B x n : Nat} {L hd hn ov : Int} {f : Nat → Int} (h : rI V B (B / 8) L hd hn ov f) (hx : x < 2 ^ n) (hn13 : n ≤ 13) : 0 ≤ hd ∧ hd < 2 ^ (B - 8 * (B / 8)) ∧ 0 ≤ (x : Int) ∧ hd + (x : Int) * 2 ^ (B - 8 * (B / 8)) < 4294967296 := by
  have h1 := rI_hd h
  refine ⟨h1.1, h1.2.1, by omega, ?_⟩
  have h3 := h.2.2.1
  have h2 := rI_hd (rI_put h hx)
  have := rI_small (rI_put h hx) (by omega)
  omega
theorem rI_same {V B : Nat} {L hd hn ov : Int} {f : Nat → Int} (h : rI V B (B / 8) L hd hn ov f) (h0 : hn ≤ 0) : rI V (8 * ((B + 7) / 8)) ((B + 7) / 8) L hd hn ov f := by
  have h3 := h.2.2.1
  have e1 : 8 * ((B + 7) / 8) = B := by omega
  have e2 : (B + 7) / 8 = B / 8 := by omega
  rw [e1, e2]
  exact h
theorem rI_pad {V B : Nat} {L hd hn ov : Int} {f : Nat → Int} (h : rI (V + 0 * 2 ^ B) (B + (8 - B % 8)) ((B + (8 - B % 8)) / 8) L hd hn ov f) (h0 : 0 < B % 8) : rI V (8 * ((B + 7) / 8)) ((B + 7) / 8) L hd hn ov f := by
  have e1 : B + (8 - B % 8) = 8 * ((B + 7) / 8) := by omega
  have e2 : (B + (8 - B % 8)) / 8 = (B + 7) / 8 := by omega
  rw [e2, e1, Nat.zero_mul, Nat.add_zero] at h
  exact h
theorem p2_pos (o : Nat) : (0 : Int) < 2 ^ o := Int.pow_pos (by decide)
/-- writing a long's bytes: d of n are left -/
def wrI (f f2 : Nat → Int) (L L2 n : Int) (d : Nat) (x : Int64) : Prop := (0 ≤ L ∧ L2 = L + n - d ∧ L + n ≤ 6000 ∧ 0 ≤ n ∧ (d : Int) ≤ n) ∧ (∀ k, -128 ≤ f2 k ∧ f2 k < 128) ∧ (∀ k : Nat, (k : Int) < L → f2 k = f k) ∧ ∀ j : Nat, (j : Int) < n - d → f2 (L.toNat + j) % 256 = wbyte x (n - 1 - j).toNat
theorem wrI_0 {f : Nat → Int} {L n : Int} {x : Int64} (h1 : 1 ≤ n) (h2 : 0 ≤ L) (h3 : L + n ≤ 6000) (hf : ∀ k, -128 ≤ f k ∧ f k < 128) : wrI f f L L n n.toNat x :=
  ⟨by omega, hf, fun _ _ => rfl, fun j hj => absurd hj (by omega)⟩
theorem wrI_s {f f2 f3 : Nat → Int} {L L2 L3 n ov ov3 : Int} {d : Nat} {x : Int64} (h : wrI f f2 L L2 n d x) (h1 : 1 ≤ n) (hd : 1 ≤ d) (ha : rAdd L2 ov f2 (wbyte x (d - 1)) L3 ov3 f3) : wrI f f3 L L3 n (d - 1) x := by
  obtain ⟨a, b, c, e⟩ := h
  rcases ha with ⟨q1, q2, q3, rfl⟩ | ⟨q1, _⟩
  · refine ⟨by omega, fun k => ?_, fun k hk => ?_, fun j hj => ?_⟩
    · by_cases hk : k = L2.toNat
      · subst hk
        rw [zu_s]
        exact ⟨bm_lo _, bm_hi _⟩
      · rw [zu_n hk]
        exact b k
    · rw [zu_n (by omega)]
      exact c k hk
    · by_cases hj2 : (j : Int) < n - d
      · rw [zu_n (by omega)]
        exact e j hj2
      · rw [show L.toNat + j = L2.toNat by omega, zu_s, iZ_bmod, show (n - 1 - (j : Int)).toNat = d - 1 by omega]
        have := wbyte_lo x (d - 1)
        have := wbyte_hi x (d - 1)
        omega
  · omega
theorem wrI_end {f f2 : Nat → Int} {L L2 n ov ov2 : Int} {d : Nat} {x : Int64} (h : wrI f f2 L L2 n d x) (hd : d = 0) (ho : ov2 = ov) : L2 = L + n ∧ ov2 = ov ∧ (∀ k, -128 ≤ f2 k ∧ f2 k < 128) ∧ (∀ k : Nat, (k : Int) < L → f2 k = f k) ∧ ∀ j : Nat, (j : Int) < n → f2 (L.toNat + j) % 256 = wbyte x (n - 1 - j).toNat := by
  subst hd
  obtain ⟨a, b, c, e⟩ := h
  exact ⟨by omega, ho, b, c, fun j hj => e j (by omega)⟩
def cellAns (o : Nat) (gS gB gA : Nat → Int) (k x : Int) : Int := if 0 < o ∧ 0 ≤ k ∧ k < 2 ^ o then (if x = 0 then gS k.toNat else if x = 1 then gB k.toNat else if x = 2 then gA k.toNat else -1) else -1
theorem cellAns_no {o : Nat} {gS gB gA : Nat → Int} {k x : Int} (h : o = 0 ∨ k < 0 ∨ 2 ^ o ≤ k) : cellAns o gS gB gA k x = -1 := if_neg (by omega)
theorem cellAns_0 {o : Nat} {gS gB gA : Nat → Int} {k x : Int} (h : 0 < o ∧ 0 ≤ k ∧ k < 2 ^ o) (hx : x = 0) : cellAns o gS gB gA k x = gS k.toNat := by
  unfold cellAns; rw [if_pos h, if_pos hx]
theorem cellAns_1 {o : Nat} {gS gB gA : Nat → Int} {k x : Int} (h : 0 < o ∧ 0 ≤ k ∧ k < 2 ^ o) (hx : x = 1) : cellAns o gS gB gA k x = gB k.toNat := by
  unfold cellAns; rw [if_pos h, if_neg (by omega), if_pos hx]
theorem cellAns_2 {o : Nat} {gS gB gA : Nat → Int} {k x : Int} (h : 0 < o ∧ 0 ≤ k ∧ k < 2 ^ o) (hx : x = 2) : cellAns o gS gB gA k x = gA k.toNat := by
  unfold cellAns; rw [if_pos h, if_neg (by omega), if_neg (by omega), if_pos hx]
theorem cellAns_x {o : Nat} {gS gB gA : Nat → Int} {k x : Int} (hx : x < 0 ∨ 2 < x) : cellAns o gS gB gA k x = -1 := by
  unfold cellAns
  split
  · rw [if_neg (by omega), if_neg (by omega), if_neg (by omega)]
  · rfl
/-! the numbers of a written share -/
def numK (R : Int) : Nat := zlog (R + 1)
def numT (R : Int) : Int := 2 ^ numK R
def numM (R : Int) : Int := 2 * numT R - 2 - R
theorem numK_lt {R : Int} (h0 : 0 ≤ R) (h : R ≤ 100000) : numK R < 17 := by
  rcases Nat.lt_or_ge (numK R) 17 with q | q
  · exact q
  · have h1 := zlog_lo (x := R + 1) (by omega)
    have h2 := p2_le q
    unfold numK at h2
    omega
theorem numK_le {R : Int} (h0 : 1 ≤ R) (h : R ≤ 4096) : numK R ≤ 12 := by
  rcases Nat.lt_or_ge (numK R) 13 with q | q
  · omega
  · have h1 := zlog_lo (x := R + 1) (by omega)
    have h2 := p2_le q
    unfold numK at h2
    omega
theorem num_facts {R : Int} (h0 : 1 ≤ R) (h : R ≤ 4096) : numT R ≤ R + 1 ∧ R + 1 < 2 * numT R ∧ 0 ≤ numM R ∧ numM R ≤ numT R - 1 ∧ numT R ≤ 4096 := by
  have h1 := zlog_lo (x := R + 1) (by omega)
  have h2 := zlog_hi (R + 1)
  rw [Int.pow_succ] at h2
  have h3 := p2_le (numK_le h0 h)
  unfold numM numT numK at *
  omega
def numX (R : Int) (v : Nat) : Nat := if (v : Int) < numM R then v else if (v : Int) < numT R then v else v + (numM R).toNat
def numN (R : Int) (v : Nat) : Nat := if (v : Int) < numM R then numK R else numK R + 1
theorem num_cast (R : Int) : ((2 ^ numK R : Nat) : Int) = numT R := by rw [Int.natCast_pow]; rfl
theorem num_x1 {R : Int} {v : Nat} (h0 : 1 ≤ R) (h : R ≤ 4096) (hv : (v : Int) < numM R) : v < 2 ^ numK R := by
  have := num_facts h0 h
  have := num_cast R
  omega
theorem num_x2 {R : Int} {v : Nat} (h0 : 1 ≤ R) (h : R ≤ 4096) (hv : (v : Int) < numT R) : v < 2 ^ (numK R + 1) := by
  have := num_facts h0 h
  have := num_cast R
  rw [Nat.pow_succ]
  omega
theorem num_x3 {R : Int} {v : Nat} (h0 : 1 ≤ R) (h : R ≤ 4096) (hv : (v : Int) ≤ R + 1) : v + (numM R).toNat < 2 ^ (numK R + 1) := by
  have := num_facts h0 h
  have := num_cast R
  have : numM R = 2 * numT R - 2 - R := rfl
  rw [Nat.pow_succ]
  omega
theorem numN_1 {R : Int} {v : Nat} (hv : (v : Int) < numM R) : numN R v = numK R := if_pos hv
theorem numN_2 {R : Int} {v : Nat} (hv : numM R ≤ v) : numN R v = numK R + 1 := if_neg (by omega)
theorem numX_1 {R : Int} {v : Nat} (hv : (v : Int) < numM R) : numX R v = v := if_pos hv
theorem numX_2 {R : Int} {v : Nat} (hv : numM R ≤ v) (h2 : (v : Int) < numT R) : numX R v = v := by unfold numX; rw [if_neg (by omega), if_pos h2]
theorem numX_3 {R : Int} {v : Nat} (hv : numM R ≤ v) (h2 : numT R ≤ v) : numX R v = v + (numM R).toNat := by unfold numX; rw [if_neg (by omega), if_neg (by omega)]
theorem zlog_e30 {x : Int} {k : Nat} (h1 : (2 : Int) ^ k ≤ x) (h : k = 30) (hx : x < 2147483648) : zlog x = k := by
  subst h
  exact zlog_is h1 hx
theorem zlog_ex {x : Int} {k : Nat} (h1 : (2 : Int) ^ k ≤ x) (h : x / 2 ^ (k + 1) ≤ 0) : zlog x = k := by
  refine zlog_is h1 ?_
  rcases (by omega : x < 2 ^ (k + 1) ∨ 2 ^ (k + 1) ≤ x) with q | q
  · exact q
  · have := (Int.le_ediv_iff_mul_le (a := 1) (b := x) (p2_pos (k + 1))).mpr (by omega)
    omega
theorem zlog_nx {x : Int} {k : Nat} (h : 0 < x / 2 ^ (k + 1)) : (2 : Int) ^ (k + 1) ≤ x := by
  have := (Int.le_ediv_iff_mul_le (a := 1) (b := x) (p2_pos (k + 1))).mp (by omega)
  omega
theorem ls_next {gP : Nat → Int} {n : Nat} (h : ∀ k, n < k → k ≤ 255 → gP k = 0) (h0 : gP n = 0) : ∀ k, n - 1 < k → k ≤ 255 → gP k = 0 := by
  intro k a b
  by_cases hk : k = n
  · rw [hk]; exact h0
  · exact h k (by omega) b
theorem wrI_ov {f f2 f3 : Nat → Int} {L L2 L3 n ov ov2 ov3 b : Int} {d : Nat} {x : Int64} (h : wrI f f2 L L2 n d x) (ho : ov2 = ov) (hd : 1 ≤ d) (ha : rAdd L2 ov2 f2 b L3 ov3 f3) : ov3 = ov := by
  have h1 := h.1
  rcases ha with q | q
  · exact q.2.2.1.trans ho
  · omega
theorem fill_0 {g : Nat → Int} {v : Int} : g = fun k => if k < 0 then v else g k := by
  funext k
  rw [if_neg (by omega)]
theorem fill_s {g : Nat → Int} {v : Int} {i : Nat} : zu (fun k => if k < i then v else g k) i v = fun k => if k < i + 1 then v else g k := by
  funext k
  unfold zu
  by_cases h1 : k = i
  · rw [if_pos h1, if_pos (by omega)]
  · rw [if_neg h1]
    show (if k < i then v else g k) = _
    by_cases h2 : k < i
    · rw [if_pos h2, if_pos (by omega)]
    · rw [if_neg h2, if_neg (by omega)]
theorem zlog_le {y : Int} {o : Nat} (h1 : 1 ≤ y) (h2 : y < 2 ^ (o + 1)) : zlog y ≤ o := by
  have a := zlog_lo (x := y) (by omega)
  rcases Nat.lt_or_ge (zlog y) (o + 1) with q | q
  · omega
  · have := p2_le q
    omega
/-- the weights of the symbols below one -/
def cum (gP : Nat → Int) : Nat → Int
  | 0 => 0
  | n + 1 => cum gP n + wgt (gP n)
theorem zu_all {g v : Nat → Int} {i : Nat} {x : Int} (h : ∀ k, k < i → g k = v k) (hx : x = v i) : ∀ k, k < i + 1 → zu g i x k = v k := by
  intro k hk
  by_cases e : k = i
  · subst e
    rw [zu_s]
    exact hx
  · rw [zu_n e]
    exact h k (by omega)
