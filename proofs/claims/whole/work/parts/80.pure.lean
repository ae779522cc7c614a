/-! taking a point from the symbol with the most, again and again -/
def mxF (g : Nat → Int) : Nat → Nat
  | 0 => 0
  | i + 1 => if g i > g (mxF g i) then i else mxF g i
theorem mx_t {g : Nat → Int} {i b : Nat} (h : mxF g i = b) (hc : g b < g i) : mxF g (i + 1) = i := by
  show (if g i > g (mxF g i) then i else mxF g i) = i
  rw [h, if_pos hc]
theorem mx_f {g : Nat → Int} {i b : Nat} (h : mxF g i = b) (hc : g i ≤ g b) : mxF g (i + 1) = b := by
  show (if g i > g (mxF g i) then i else mxF g i) = b
  rw [h, if_neg (by omega)]
def txF (g : Nat → Int) : Nat → Nat → Int
  | 0 => g
  | k + 1 => zu (txF g k) (mxF (txF g k) 256) (txF g k (mxF (txF g k) 256) - 1)
theorem tx_s {g d : Nat → Int} {k i b : Nat} (h : d = txF g k) (hi : i = 256) (hb : mxF d i = b) : zu d b (d b - 1) = txF g (k + 1) := by
  subst hi; subst hb; subst h
  rfl
theorem tx_b {g d : Nat → Int} {k m : Nat} (hg : ∀ k, k < 256 → -1 ≤ g k ∧ g k ≤ 65536) (_ : k ≤ m) (h : d = txF g k) (j : Nat) (hj : j < 256) : -1 - (k : Int) ≤ d j ∧ d j ≤ 65536 := by
  subst h
  induction k with
  | zero =>
    have := hg j hj
    show -1 - ((0 : Nat) : Int) ≤ g j ∧ g j ≤ 65536
    omega
  | succ k ih =>
    have ih := ih (by omega)
    show -1 - ((k + 1 : Nat) : Int) ≤ zu (txF g k) (mxF (txF g k) 256) (txF g k (mxF (txF g k) 256) - 1) j ∧ zu (txF g k) (mxF (txF g k) 256) (txF g k (mxF (txF g k) 256) - 1) j ≤ 65536
    by_cases e : j = mxF (txF g k) 256
    · rw [e, zu_s, ← e]; omega
    · rw [zu_n e]; omega
theorem mx_1 {g : Nat → Int} : mxF g 1 = 0 := if_neg (Int.lt_irrefl _)
