section ECM
variable {gP gS : Nat → Int} {o : Nat} {b : Nat → Int} {hi j k n : Nat} {x : Int}
theorem ec_c0 (hk : (k : Int) < 2 ^ o) (h1 : gS k = b hi) (h2 : cntS gS (b hi) k = 0) : (k : Int) = ((ecS gP gS o b hi 0).1 : Int) := by
  have hpn := p2n o
  show (k : Int) = ((fcF gS (b hi) 0 (2 ^ o) : Nat) : Int)
  rw [fcF_is (N := 2 ^ o) (by omega) h1 h2]
theorem ec_c1 (hk : (k : Int) < 2 ^ o) (hen : enN (((ecS gP gS o b hi j).1 : Int) + 2 ^ o) (wgt (gP (b (hi - (j + 1))).toNat)) (o + 1) = n) (h1 : gS k = b (hi - (j + 1))) (h2 : cntS gS (b (hi - (j + 1))) k = (((ecS gP gS o b hi j).1 : Int) + 2 ^ o) / 2 ^ n - wgt (gP (b (hi - (j + 1))).toNat)) : (k : Int) = ((ecS gP gS o b hi (j + 1)).1 : Int) := by
  have hpn := p2n o
  show (k : Int) = ((fcF gS (b (hi - (j + 1))) ((((ecS gP gS o b hi j).1 : Int) + 2 ^ o) / 2 ^ enN (((ecS gP gS o b hi j).1 : Int) + 2 ^ o) (wgt (gP (b (hi - (j + 1))).toNat)) (o + 1) - wgt (gP (b (hi - (j + 1))).toNat)) (2 ^ o) : Nat) : Int)
  rw [hen, fcF_is (N := 2 ^ o) (by omega) h1 h2]
theorem ec_b1 (hen : enN (((ecS gP gS o b hi j).1 : Int) + 2 ^ o) (wgt (gP (b (hi - (j + 1))).toNat)) (o + 1) = n) : (ecS gP gS o b hi (j + 1)).2.2 = (ecS gP gS o b hi j).2.2 + n := by
  show (ecS gP gS o b hi j).2.2 + enN (((ecS gP gS o b hi j).1 : Int) + 2 ^ o) (wgt (gP (b (hi - (j + 1))).toNat)) (o + 1) = _
  rw [hen]
theorem ec_v1 (hen : enN (((ecS gP gS o b hi j).1 : Int) + 2 ^ o) (wgt (gP (b (hi - (j + 1))).toNat)) (o + 1) = n) : (ecS gP gS o b hi (j + 1)).2.1 = (ecS gP gS o b hi j).2.1 + ((((ecS gP gS o b hi j).1 : Int) + 2 ^ o) % 2 ^ n).toNat * 2 ^ (ecS gP gS o b hi j).2.2 := by
  show (ecS gP gS o b hi j).2.1 + ((((ecS gP gS o b hi j).1 : Int) + 2 ^ o) % 2 ^ enN (((ecS gP gS o b hi j).1 : Int) + 2 ^ o) (wgt (gP (b (hi - (j + 1))).toNat)) (o + 1)).toNat * 2 ^ (ecS gP gS o b hi j).2.2 = _
  rw [hen]
end ECM
theorem st_base {st : Int} {o n : Nat} (h1 : 0 ≤ st ∧ st < 2 ^ o) (hn : n ≤ o) : st - ((st + 2 ^ o) / 2 ^ n * 2 ^ (o - zlog ((st + 2 ^ o) / 2 ^ n)) - 2 ^ o) = (((st + 2 ^ o) % 2 ^ n).toNat : Int) := by
  have hps := p2_s o
  have hz := zlog_div (wh := st + 2 ^ o) (o := o) (b := n) (by omega) (by omega) hn
  have hm := Int.emod_nonneg (st + 2 ^ o) (Int.ne_of_gt (p2_pos n))
  have hd := Int.emod_add_mul_ediv (st + 2 ^ o) (2 ^ n)
  rw [hz, show o - (o - n) = n by omega, Int.mul_comm]
  omega
theorem mod_lt2 {x : Int} {n : Nat} : (x % 2 ^ n).toNat < 2 ^ n := by
  have h1 := Int.emod_nonneg x (Int.ne_of_gt (p2_pos n))
  have h2 := Int.emod_lt_of_pos x (p2_pos n)
  have h3 := p2n n
  omega
theorem aw_m {g f : Nat → Int} {a : Int} {i : Nat} (h : ∀ k : Nat, a ≤ (k : Int) → k < i → g (f k).toNat ≠ 0) (h0 : g (f i).toNat ≠ 0) : ∀ k : Nat, a ≤ (k : Int) → k < i + 1 → g (f k).toNat ≠ 0 := by
  intro k q1 q2
  by_cases e : k = i
  · rw [e]; exact h0
  · exact h k q1 (by omega)
theorem enN_le {wh w : Int} : ∀ {N : Nat}, enN wh w (N + 1) ≤ N
  | 0 => by
    show (if w ≤ wh / 2 ^ 0 ∧ wh / 2 ^ 0 < 2 * w then 0 else enN wh w 0) ≤ 0
    split
    · exact Nat.le_refl _
    · exact Nat.le_refl _
  | N + 1 => by
    have ih := enN_le (wh := wh) (w := w) (N := N)
    show (if w ≤ wh / 2 ^ (N + 1) ∧ wh / 2 ^ (N + 1) < 2 * w then N + 1 else enN wh w (N + 1)) ≤ N + 1
    split <;> omega
theorem ecS_hi {gP gS : Nat → Int} {o : Nat} {b : Nat → Int} {hi : Nat} : ∀ {m : Nat}, (ecS gP gS o b hi m).2.2 ≤ o * m
  | 0 => Nat.le_refl _
  | m + 1 => by
    have ih := ecS_hi (gP := gP) (gS := gS) (o := o) (b := b) (hi := hi) (m := m)
    have e := enN_le (wh := ((ecS gP gS o b hi m).1 : Int) + 2 ^ o) (w := wgt (gP (b (hi - (m + 1))).toNat)) (N := o)
    show (ecS gP gS o b hi m).2.2 + enN (((ecS gP gS o b hi m).1 : Int) + 2 ^ o) (wgt (gP (b (hi - (m + 1))).toNat)) (o + 1) ≤ o * (m + 1)
    rw [Nat.mul_succ]
    omega
theorem ecB_hi {gP gS : Nat → Int} {o : Nat} {b : Nat → Int} {hi m : Nat} (h : o ≤ 12) : ecB gP gS o b hi m ≤ 12 * m + 13 := by
  have h1 := ecS_hi (gP := gP) (gS := gS) (o := o) (b := b) (hi := hi) (m := m)
  have h2 := Nat.mul_le_mul_right m h
  unfold ecB
  omega
