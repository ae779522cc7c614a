/-! decoding a row -/
def bW (gP gS : Nat → Int) (o k : Nat) : Nat := o - zlog (nmb gP gS k)
def bA (gP gS : Nat → Int) (o k : Nat) : Int := nmb gP gS k * 2 ^ (bW gP gS o k) - 2 ^ o
def dcS (gP gS : Nat → Int) (o : Nat) (b : Nat → Int) (q0 : Nat) (u0 : Int) : Nat → Int × Nat
  | 0 => (u0, (nbI b (q0 + u0.toNat) o).toNat)
  | j + 1 => ((dcS gP gS o b q0 u0 j).1 - bW gP gS o (dcS gP gS o b q0 u0 j).2, if (dcS gP gS o b q0 u0 j).1 - bW gP gS o (dcS gP gS o b q0 u0 j).2 < 0 then (dcS gP gS o b q0 u0 j).2 else (bA gP gS o (dcS gP gS o b q0 u0 j).2 + nbI b (q0 + ((dcS gP gS o b q0 u0 j).1 - bW gP gS o (dcS gP gS o b q0 u0 j).2).toNat) (bW gP gS o (dcS gP gS o b q0 u0 j).2)).toNat)
theorem bA_b {gP gS : Nat → Int} {o k : Nat} (h1 : 1 ≤ nmb gP gS k) (h2 : nmb gP gS k < 2 ^ (o + 1)) : 0 ≤ bA gP gS o k ∧ bA gP gS o k + 2 ^ (bW gP gS o k) ≤ 2 ^ o ∧ bW gP gS o k ≤ o := by
  have hz := zlog_le h1 h2
  have a := zlog_lo (x := nmb gP gS k) (by omega)
  have b := zlog_hi (nmb gP gS k)
  have e1 : (2 : Int) ^ o = 2 ^ zlog (nmb gP gS k) * 2 ^ (bW gP gS o k) := by unfold bW; rw [← Int.pow_add]; congr 1; omega
  have e2 : (2 : Int) ^ (o + 1) = 2 ^ (zlog (nmb gP gS k) + 1) * 2 ^ (bW gP gS o k) := by unfold bW; rw [← Int.pow_add]; congr 1; omega
  have hp := p2_pos (bW gP gS o k)
  have m1 := Int.mul_le_mul_of_nonneg_right a (Int.le_of_lt hp)
  have m2 := Int.mul_le_mul_of_nonneg_right (show nmb gP gS k + 1 ≤ 2 ^ (zlog (nmb gP gS k) + 1) by omega) (Int.le_of_lt hp)
  rw [Int.add_mul, Int.one_mul] at m2
  have hps := p2_s o
  unfold bA
  refine ⟨by omega, by omega, by unfold bW; omega⟩
theorem dc_st {gP gS : Nat → Int} {o : Nat} {b : Nat → Int} {q0 : Nat} {u0 : Int} (hn : ∀ k : Nat, (k : Int) < 2 ^ o → 1 ≤ nmb gP gS k ∧ nmb gP gS k < 2 ^ (o + 1)) : ∀ {j : Nat}, ((dcS gP gS o b q0 u0 j).2 : Int) < 2 ^ o
  | 0 => by
    have h := nbI_b b (q0 + u0.toNat) o
    show (((nbI b (q0 + u0.toNat) o).toNat : Nat) : Int) < 2 ^ o
    omega
  | j + 1 => by
    have ih := dc_st (b := b) (q0 := q0) (u0 := u0) hn (j := j)
    have hb := bA_b (hn _ ih).1 (hn _ ih).2
    have h := nbI_b b (q0 + ((dcS gP gS o b q0 u0 j).1 - bW gP gS o (dcS gP gS o b q0 u0 j).2).toNat) (bW gP gS o (dcS gP gS o b q0 u0 j).2)
    show (((if (dcS gP gS o b q0 u0 j).1 - bW gP gS o (dcS gP gS o b q0 u0 j).2 < 0 then (dcS gP gS o b q0 u0 j).2 else (bA gP gS o (dcS gP gS o b q0 u0 j).2 + nbI b (q0 + ((dcS gP gS o b q0 u0 j).1 - bW gP gS o (dcS gP gS o b q0 u0 j).2).toNat) (bW gP gS o (dcS gP gS o b q0 u0 j).2)).toNat : Nat)) : Int) < 2 ^ o
    split
    · exact ih
    · omega
theorem dc_mono {gP gS : Nat → Int} {o : Nat} {b : Nat → Int} {q0 : Nat} {u0 : Int} {i : Nat} : ∀ {j : Nat}, i ≤ j → (dcS gP gS o b q0 u0 j).1 ≤ (dcS gP gS o b q0 u0 i).1
  | 0, h => by rw [show i = 0 by omega]; exact Int.le_refl _
  | j + 1, h => by
    by_cases e : i = j + 1
    · rw [e]; exact Int.le_refl _
    · have := dc_mono (gP := gP) (gS := gS) (o := o) (b := b) (q0 := q0) (u0 := u0) (i := i) (j := j) (by omega)
      show (dcS gP gS o b q0 u0 j).1 - bW gP gS o (dcS gP gS o b q0 u0 j).2 ≤ _
      omega
theorem dc_s1 {gP gS : Nat → Int} {o : Nat} {b : Nat → Int} {q0 j : Nat} {u0 : Int} : (dcS gP gS o b q0 u0 (j + 1)).1 = (dcS gP gS o b q0 u0 j).1 - bW gP gS o (dcS gP gS o b q0 u0 j).2 := rfl
theorem dc_s2 {gP gS : Nat → Int} {o : Nat} {b : Nat → Int} {q0 j : Nat} {u0 : Int} (hn : 1 ≤ nmb gP gS (dcS gP gS o b q0 u0 j).2 ∧ nmb gP gS (dcS gP gS o b q0 u0 j).2 < 2 ^ (o + 1)) (h : 0 ≤ (dcS gP gS o b q0 u0 (j + 1)).1) : ((dcS gP gS o b q0 u0 (j + 1)).2 : Int) = bA gP gS o (dcS gP gS o b q0 u0 j).2 + nbI b (q0 + ((dcS gP gS o b q0 u0 (j + 1)).1).toNat) (bW gP gS o (dcS gP gS o b q0 u0 j).2) := by
  have hb := bA_b hn.1 hn.2
  have h2 := nbI_b b (q0 + ((dcS gP gS o b q0 u0 j).1 - bW gP gS o (dcS gP gS o b q0 u0 j).2).toNat) (bW gP gS o (dcS gP gS o b q0 u0 j).2)
  rw [dc_s1] at h
  rw [dc_s1]
  show (((if (dcS gP gS o b q0 u0 j).1 - bW gP gS o (dcS gP gS o b q0 u0 j).2 < 0 then (dcS gP gS o b q0 u0 j).2 else (bA gP gS o (dcS gP gS o b q0 u0 j).2 + nbI b (q0 + ((dcS gP gS o b q0 u0 j).1 - bW gP gS o (dcS gP gS o b q0 u0 j).2).toNat) (bW gP gS o (dcS gP gS o b q0 u0 j).2)).toNat : Nat)) : Int) = _
  rw [if_neg (by omega)]
  omega
theorem sh_num {gP gS gB gA gC gF : Nat → Int} {o : Nat} (h : shOK gP gS gB gA gC gF o) (hp : ∀ k, k < 256 → -1 ≤ gP k ∧ gP k ≤ 65536) (hsum : cum gP 256 = 2 ^ o) : ∀ k : Nat, (k : Int) < 2 ^ o → 1 ≤ nmb gP gS k ∧ nmb gP gS k < 2 ^ (o + 1) := by
  intro k hk
  have hpn := p2n o
  have hps := p2_s o
  have r := h.2.2.2 k hk
  have c := h.2.2.1 (gS k).toNat (by omega)
  rw [show (((gS k).toNat : Nat) : Int) = gS k by omega] at c
  have l := cnt_lt (g := gS) (v := gS k) rfl (show k < 2 ^ o by omega)
  have l0 := cntS_lo gS (gS k) k
  have f := cum_fit hp (y := (gS k).toNat) (by omega)
  have f0 := cum_lo hp (b := (gS k).toNat) (by omega)
  unfold nmb
  omega
theorem sh_tab {gP gS gB gA gC gF : Nat → Int} {o k : Nat} (h : shOK gP gS gB gA gC gF o) (hn : 1 ≤ nmb gP gS k ∧ nmb gP gS k < 2 ^ (o + 1)) (hk : (k : Int) < 2 ^ o) : gB k = (bW gP gS o k : Int) ∧ gA k = bA gP gS o k := by
  have hpn := p2n o
  have a := h.1 k (by omega)
  have hz := zlog_le hn.1 hn.2
  refine ⟨?_, a.2.1⟩
  rw [a.1]
  unfold bW
  omega
