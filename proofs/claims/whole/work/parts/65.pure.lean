section RDM
variable {b : Nat → Int} {q0 last t s : Nat} {A R z w : Int} {T : Int × Nat × (Nat → Int)} {pt : Nat → Int}
theorem rdR_l2 (h : rdR b q0 A last T t s R pt) (hs : s ≤ 255) (hz : z = tkZ b (q0 + t) (A - t) R) (h1 : z ≠ -1) (h2 : ¬ R - wgt (z - 1) ≤ 0) (h4 : last < s + 1) : T.1 = -2 := by
  by_cases h3 : z = 1
  · exact (rdR_z h hs hz h2 h3 (bzR_out bzR_0 h4) (Or.inr (by omega))).2.1 (by omega)
  · exact rdR_2 h hs hz h1 h2 h3 h4
theorem bz_fst {C : Int × Nat} : C = (C.1, C.2) := rfl
theorem rdR_bzn (h : rdR b q0 A last T t s R pt) (hs : s ≤ 255) (hz : z = tkZ b (q0 + t) (A - t) R) (h2 : ¬ R - wgt (z - 1) ≤ 0) (h3 : z = 1) (hw : w = bzM last (bz b q0 A last 256 (t + tkU b (q0 + t) R) (s + 1)).1) (hn : w < 0) : (T.1 = -2 ∧ w = -2) ∨ (T.1 = -3 ∧ w = -3) := by
  have hg := bz_ge (b := b) (q0 := q0) (last := last) (A := A) (n := 256) (t := t + tkU b (q0 + t) R) (s := s + 1)
  have k := rdR_z h hs hz h2 h3 bz_fst (by omega)
  generalize bz b q0 A last 256 (t + tkU b (q0 + t) R) (s + 1) = C at hw k hg
  unfold bzM at hw
  by_cases c1 : C.1 = -1
  · rw [if_pos c1] at hw
    exact Or.inr ⟨k.1 c1, hw⟩
  · rw [if_neg c1] at hw
    by_cases c2 : (last : Int) < C.1
    · rw [if_pos c2] at hw
      exact Or.inl ⟨k.2.1 c2, hw⟩
    · rw [if_neg c2] at hw
      omega
theorem rdR_bzp (h : rdR b q0 A last T t s R pt) (hs : s ≤ 255) (hz : z = tkZ b (q0 + t) (A - t) R) (h2 : ¬ R - wgt (z - 1) ≤ 0) (h3 : z = 1) (hw : w = bzM last (bz b q0 A last 256 (t + tkU b (q0 + t) R) (s + 1)).1) (hn : 0 ≤ w) : rdR b q0 A last T (bz b q0 A last 256 (t + tkU b (q0 + t) R) (s + 1)).2 (w + 1).toNat (R - wgt (z - 1)) (zu pt s (z - 1)) := by
  have hg := bz_ge (b := b) (q0 := q0) (last := last) (A := A) (n := 256) (t := t + tkU b (q0 + t) R) (s := s + 1)
  have k := rdR_z h hs hz h2 h3 bz_fst (by omega)
  generalize bz b q0 A last 256 (t + tkU b (q0 + t) R) (s + 1) = C at hw k hg
  unfold bzM at hw
  by_cases c1 : C.1 = -1
  · rw [if_pos c1] at hw
    omega
  · rw [if_neg c1] at hw
    by_cases c2 : (last : Int) < C.1
    · rw [if_pos c2] at hw
      omega
    · rw [if_neg c2] at hw
      rw [show (w + 1).toNat = C.1.toNat by omega]
      exact k.2.2 c1 c2
end RDM
theorem bzM_b {b : Nat → Int} {q0 last t s : Nat} {A : Int} : -3 ≤ bzM last (bz b q0 A last 256 t s).1 ∧ bzM last (bz b q0 A last 256 t s).1 ≤ (s : Int) + 1000 := by
  have h := bz_le (b := b) (q0 := q0) (last := last) (A := A) (n := 256) (t := t) (s := s)
  have g := bz_ge (b := b) (q0 := q0) (last := last) (A := A) (n := 256) (t := t) (s := s)
  unfold bzM
  split
  · omega
  · split <;> omega
