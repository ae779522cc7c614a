/-! decoding a row -/
def bW (gP gS : Nat → Int) (o k : Nat) : Nat := o - zlog (nmb gP gS k)
def bA (gP gS : Nat → Int) (o k : Nat) : Int := nmb gP gS k * 2 ^ (bW gP gS o k) - 2 ^ o
def dcS (gP gS : Nat → Int) (o : Nat) (b : Nat → Int) (q0 : Nat) (u0 : Int) : Nat → Int × Nat
  | 0 => (u0, (nbI b (q0 + u0.toNat) o).toNat)
  | j + 1 => ((dcS gP gS o b q0 u0 j).1 - bW gP gS o (dcS gP gS o b q0 u0 j).2, if (dcS gP gS o b q0 u0 j).1 - bW gP gS o (dcS gP gS o b q0 u0 j).2 < 0 then (dcS gP gS o b q0 u0 j).2 else (bA gP gS o (dcS gP gS o b q0 u0 j).2 + nbI b (q0 + ((dcS gP gS o b q0 u0 j).1 - bW gP gS o (dcS gP gS o b q0 u0 j).2).toNat) (bW gP gS o (dcS gP gS o b q0 u0 j).2)).toNat)
theorem bA_b {gP gS : Nat → Int} {o k : Nat} (h1 : 1 ≤ nmb gP gS k) (h2 : nmb gP gS k < 2 ^ (o + 1)) : 0 ≤ bA gP gS o k ∧ bA gP gS o k + 2 ^ (bW gP gS o k) ≤ 2 ^ o ∧ bW gP gS o k ≤ o := by
  have hz := zlog_le h1 h2
  have a := zlog_lo (x := nmb gP gS k) (by omega)
  have b := zlog_hi (nmb gP gS k)
  have e1 : (2 : Int) ^ o = 2 ^ zlog (nmb gP gS k) * 2 ^ (bW gP gS o k) := by unfold bW; rw [← Int.pow_add]; congr 1; omega
  have e2 : (2 : Int) ^ (o + 1) = 2 ^ (zlog (nmb gP gS k) + 1) * 2 ^ (bW gP gS o k) := by unfold bW; rw [← Int.pow_add]; congr 1; omega
  have hp := p2_pos (bW gP gS o k)
  have m1 := Int.mul_le_mul_of_nonneg_right a (Int.le_of_lt hp)
  have m2 := Int.mul_le_mul_of_nonneg_right (show nmb gP gS k + 1 ≤ 2 ^ (zlog (nmb gP gS k) + 1) by omega) (Int.le_of_lt hp)
  rw [Int.add_mul, Int.one_mul] at m2
  have hps := p2_s o
  unfold bA
  refine ⟨by omega, by omega, by unfold bW; omega⟩
theorem dc_st {gP gS : Nat → Int} {o : Nat} {b : Nat → Int} {q0 : Nat} {u0 : Int} (hn : ∀ k : Nat, (k : Int) < 2 ^ o → 1 ≤ nmb gP gS k ∧ nmb gP gS k < 2 ^ (o + 1)) : ∀ {j : Nat}, ((dcS gP gS o b q0 u0 j).2 : Int) < 2 ^ o
  | 0 => by
    have h := nbI_b b (q0 + u0.toNat) o
    show (((nbI b (q0 + u0.toNat) o).toNat : Nat) : Int) < 2 ^ o
    omega
  | j + 1 => by
    have ih := dc_st (b := b) (q0 := q0) (u0 := u0) hn (j := j)
    have hb := bA_b (hn _ ih).1 (hn _ ih).2
    have h := nbI_b b (q0 + ((dcS gP gS o b q0 u0 j).1 - bW gP gS o (dcS gP gS o b q0 u0 j).2).toNat) (bW gP gS o (dcS gP gS o b q0 u0 j).2)
    show (((if (dcS gP gS o b q0 u0 j).1 - bW gP gS o (dcS gP gS o b q0 u0 j).2 < 0 then (dcS gP gS o b q0 u0 j).2 else (bA gP gS o (dcS gP gS o b q0 u0 j).2 + nbI b (q0 + ((dcS gP gS o b q0 u0 j).1 - bW gP gS o (dcS gP gS o b q0 u0 j).2).toNat) (bW gP gS o (dcS gP gS o b q0 u0 j).2)).toNat : Nat)) : Int) < 2 ^ o
    split
    · exact ih
    · omega
theorem dc_mono {gP gS : Nat → Int} {o : Nat} {b : Nat → Int} {q0 : Nat} {u0 : Int} {i : Nat} : ∀ {j : Nat}, i ≤ j → (dcS gP gS o b q0 u0 j).1 ≤ (dcS gP gS o b q0 u0 i).1
  | 0, h => by rw [show i = 0 by omega]; exact Int.le_refl _
  | j + 1, h => by
    by_cases e : i = j + 1
    · rw [e]; exact Int.le_refl _
    · have := dc_mono (gP := gP) (gS := gS) (o := o) (b := b) (q0 := q0) (u0 := u0) (i := i) (j := j) (by omega)
      show (dcS gP gS o b q0 u0 j).1 - bW gP gS o (dcS gP gS o b q0 u0 j).2 ≤ _
      omega
theorem dc_s1 {gP gS : Nat → Int} {o : Nat} {b : Nat → Int} {q0 j : Nat} {u0 : Int} : (dcS gP gS o b q0 u0 (j + 1)).1 = (dcS gP gS o b q0 u0 j).1 - bW gP gS o (dcS gP gS o b q0 u0 j).2 := rfl
theorem dc_s2 {gP gS : Nat → Int} {o : Nat} {b : Nat → Int} {q0 j : Nat} {u0 : Int} (hn : 1 ≤ nmb gP gS (dcS gP gS o b q0 u0 j).2 ∧ nmb gP gS (dcS gP gS o b q0 u0 j).2 < 2 ^ (o + 1)) (h : 0 ≤ (dcS gP gS o b q0 u0 (j + 1)).1) : ((dcS gP gS o b q0 u0 (j + 1)).2 : Int) = bA gP gS o (dcS gP gS o b q0 u0 j).2 + nbI b (q0 + ((dcS gP gS o b q0 u0 (j + 1)).1).toNat) (bW gP gS o (dcS gP gS o b q0 u0 j).2) := by
  have hb := bA_b hn.1 hn.2
  have h2 := nbI_b b (q0 + ((dcS gP gS o b q0 u0 j).1 - bW gP gS o (dcS gP gS o b q0 u0 j).2).toNat) (bW gP gS o (dcS gP gS o b q0 u0 j).2)
  rw [dc_s1] at h
  rw [dc_s1]
  show (((if (dcS gP gS o b q0 u0 j).1 - bW gP gS o (dcS gP gS o b q0 u0 j).2 < 0 then (dcS gP gS o b q0 u0 j).2 else (bA gP gS o (dcS gP gS o b q0 u0 j).2 + nbI b (q0 + ((dcS gP gS o b q0 u0 j).1 - bW gP gS o (dcS gP gS o b q0 u0 j).2).toNat) (bW gP gS o (dcS gP gS o b q0 u0 j).2)).toNat : Nat)) : Int) = _
  rw [if_neg (by omega)]
  omega
theorem sh_num {gP gS gB gA gC gF : Nat → Int} {o : Nat} (h : shOK gP gS gB gA gC gF o) (hp : ∀ k, k < 256 → -1 ≤ gP k ∧ gP k ≤ 65536) (hsum : cum gP 256 = 2 ^ o) : ∀ k : Nat, (k : Int) < 2 ^ o → 1 ≤ nmb gP gS k ∧ nmb gP gS k < 2 ^ (o + 1) := by
  intro k hk
  have hpn := p2n o
  have hps := p2_s o
  have r := h.2.2.2 k hk
  have c := h.2.2.1 (gS k).toNat (by omega)
  rw [show (((gS k).toNat : Nat) : Int) = gS k by omega] at c
  have l := cnt_lt (g := gS) (v := gS k) rfl (show k < 2 ^ o by omega)
  have l0 := cntS_lo gS (gS k) k
  have f := cum_fit hp (y := (gS k).toNat) (by omega)
  have f0 := cum_lo hp (b := (gS k).toNat) (by omega)
  unfold nmb
  omega
theorem sh_tab {gP gS gB gA gC gF : Nat → Int} {o k : Nat} (h : shOK gP gS gB gA gC gF o) (hn : 1 ≤ nmb gP gS k ∧ nmb gP gS k < 2 ^ (o + 1)) (hk : (k : Int) < 2 ^ o) : gB k = (bW gP gS o k : Int) ∧ gA k = bA gP gS o k := by
  have hpn := p2n o
  have a := h.1 k (by omega)
  have hz := zlog_le hn.1 hn.2
  refine ⟨?_, a.2.1⟩
  rw [a.1]
  unfold bW
  omega
/-! taking a row -/
def trI (g : Nat → Int) (i : Nat) (L : Int) (f : Nat → Int) : Prop := L = (i : Int) ∧ (∀ k, k < i → f k % 256 = g k) ∧ ∀ k, -128 ≤ f k ∧ f k < 128
theorem tr_0 {g f : Nat → Int} (h : ∀ k, -128 ≤ f k ∧ f k < 128) : trI g 0 0 f := ⟨rfl, fun k q => absurd q (by omega), h⟩
theorem tr_s {g f f1 : Nat → Int} {i : Nat} {L ov L1 ov1 : Int} (h : trI g i L f) (hi : i < 6000) (hg : 0 ≤ g i ∧ g i < 256) (ha : rAdd L ov f (g i) L1 ov1 f1) : trI g (i + 1) L1 f1 := by
  obtain ⟨h1, h2, h3⟩ := h
  rcases ha with ⟨q1, q2, q3, rfl⟩ | ⟨q1, _⟩
  · have e : L.toNat = i := by omega
    refine ⟨by omega, fun k hk => ?_, fun k => ?_⟩
    · by_cases hk2 : k = i
      · rw [hk2, e, zu_s, iZ_bmod]
        omega
      · rw [zu_n (by omega)]
        exact h2 k (by omega)
    · by_cases hk : k = L.toNat
      · subst hk
        rw [zu_s]
        exact ⟨bm_lo _, bm_hi _⟩
      · rw [zu_n hk]
        exact h3 k
  · omega
section DCS
variable {gP gS : Nat → Int} {o : Nat} {b : Nat → Int} {q0 : Nat} {u0 : Int}
theorem dc_0 (h : 0 ≤ u0) : nbI b (q0 + u0.toNat) o = ((dcS gP gS o b q0 u0 0).2 : Int) := by
  have := nbI_b b (q0 + u0.toNat) o
  show _ = (((nbI b (q0 + u0.toNat) o).toNat : Nat) : Int)
  omega
theorem dc_00 : (dcS gP gS o b q0 u0 0).1 = u0 := rfl
theorem zlog8 {y : Int} (h : 1 ≤ y ∧ y < 256) : zlog y ≤ 7 := zlog_le h.1 (by have : (2 : Int) ^ (7 + 1) = 256 := rfl; omega)
theorem bW_i {k : Nat} (h : 1 ≤ nmb gP gS k ∧ nmb gP gS k < 2 ^ (o + 1)) : (o : Int) - (zlog (nmb gP gS k) : Int) = (bW gP gS o k : Int) := by
  have := zlog_le h.1 h.2
  unfold bW
  omega
theorem dr_post {x z L1 : Int} {j : Nat} {f1 : Nat → Int} (hj : x.toNat - 1 = j) (hx : 1 ≤ x) (h2 : trI (fun i => gS (dcS gP gS o b q0 u0 i).2) (j + 1) L1 f1) (h0 : 0 ≤ (dcS gP gS o b q0 u0 j).1) (hz : (z = -4 ∧ 0 < (dcS gP gS o b q0 u0 j).1) ∨ (z = x ∧ (dcS gP gS o b q0 u0 j).1 ≤ 0)) : (z = -3 ∧ (dcS gP gS o b q0 u0 (x.toNat - 1)).1 < 0 ∧ ∀ k, -128 ≤ f1 k ∧ f1 k < 128) ∨ (z = -4 ∧ 0 < (dcS gP gS o b q0 u0 (x.toNat - 1)).1 ∧ ∀ k, -128 ≤ f1 k ∧ f1 k < 128) ∨ (z = x ∧ (dcS gP gS o b q0 u0 (x.toNat - 1)).1 = 0 ∧ L1 = x ∧ (∀ i : Nat, i < x.toNat → f1 i % 256 = gS (dcS gP gS o b q0 u0 i).2) ∧ ∀ k, -128 ≤ f1 k ∧ f1 k < 128) := by
  obtain ⟨a, c, d⟩ := h2
  rw [hj]
  rcases hz with ⟨h3, h4⟩ | ⟨h3, h4⟩
  · exact Or.inr (Or.inl ⟨h3, h4, d⟩)
  · exact Or.inr (Or.inr ⟨h3, by omega, by omega, fun i hi => c i (by omega), d⟩)
/-- the end bit -/
theorem end_bit {h j : Nat} (hb : 1 ≤ b h ∧ b h < 256) (hj : zlog (b h) ≤ j ∧ j ≤ 7) {q : Nat} (hq : q = 8 * h + j) : (j = zlog (b h) ∧ nbI b q 1 = 1) ∨ (zlog (b h) < j ∧ nbI b q 1 = 0) := by
  rw [nbI_1]
  unfold bt
  rw [show q / 8 = h by omega, show q % 8 = j by omega]
  have hl := zlog_lo (x := b h) (by omega)
  have hh := zlog_hi (b h)
  have hps := p2_s (zlog (b h))
  have hp := p2_pos (zlog (b h))
  by_cases e : j = zlog (b h)
  · refine Or.inl ⟨e, ?_⟩
    rw [e]
    have : b h / 2 ^ zlog (b h) = 1 := by
      have a1 : b h / 2 ^ zlog (b h) < 2 := Int.ediv_lt_of_lt_mul hp (by omega)
      have a2 : 1 ≤ b h / 2 ^ zlog (b h) := Int.le_ediv_of_mul_le hp (by omega)
      omega
    rw [this]
    rfl
  · refine Or.inr ⟨by omega, ?_⟩
    have hle := p2_le (show zlog (b h) + 1 ≤ j by omega)
    rw [Int.ediv_eq_zero_of_lt (by omega) (by omega)]
    rfl
theorem fo_post {x : Int} {m i : Nat} (hm : (m = i ∧ (i : Int) < x) ∨ ((m : Int) + 1 = x ∧ (i : Int) = x)) (he : x ≤ (i : Int) ∨ (dcS gP gS o b q0 u0 m).1 < 0) : ((dcS gP gS o b q0 u0 m).1 < 0 ∧ (dcS gP gS o b q0 u0 (x.toNat - 1)).1 < 0) ∨ (0 ≤ (dcS gP gS o b q0 u0 m).1 ∧ (dcS gP gS o b q0 u0 m).1 = (dcS gP gS o b q0 u0 (x.toNat - 1)).1) := by
  by_cases e : m = x.toNat - 1
  · rw [e]; omega
  · have h := dc_mono (gP := gP) (gS := gS) (o := o) (b := b) (q0 := q0) (u0 := u0) (i := m) (j := x.toNat - 1) (by omega)
    omega
end DCS
