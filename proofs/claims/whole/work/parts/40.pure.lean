/-! spreading the symbols over the cells -/
def stp (o : Nat) : Nat := 2 ^ o / 2 + 2 ^ o / 8 + 3
def cel (o k : Nat) : Nat := k * stp o % 2 ^ o
theorem cel_lt (o k : Nat) : cel o k < 2 ^ o := Nat.mod_lt _ (Nat.pow_pos (by decide))
theorem cel_0 (o : Nat) : cel o 0 = 0 := by unfold cel; rw [Nat.zero_mul, Nat.zero_mod]
theorem cel_s (o k : Nat) : (cel o k + stp o) % 2 ^ o = cel o (k + 1) := by
  unfold cel
  rw [Nat.mod_add_mod, Nat.add_mul, Nat.one_mul]
theorem cel_i (o k : Nat) : ((cel o k : Int) + (stp o : Int)) % 2 ^ o = (cel o (k + 1) : Int) := by
  rw [← cel_s, Int.natCast_emod, p2n, Int.natCast_add]
theorem stp_i {o : Nat} : (2 : Int) ^ o / 2 + 2 ^ o / 8 + 3 = (stp o : Int) := by
  unfold stp
  rw [Int.natCast_add, Int.natCast_add, Int.natCast_ediv, Int.natCast_ediv, p2n]
  rfl
/-- the symbols with -1 points, from the highest cell down: the lowest cell taken, the table -/
def sngl (pt : Nat → Int) (o : Nat) (t : Nat → Int) : Nat → Int × (Nat → Int)
  | 0 => (2 ^ o, t)
  | s + 1 => if pt s = -1 then ((sngl pt o t s).1 - 1, zu (sngl pt o t s).2 ((sngl pt o t s).1 - 1).toNat s) else sngl pt o t s
theorem sngl_n {pt t t2 : Nat → Int} {o s : Nat} {E : Int} (h : sngl pt o t s = (E, t2)) (hs : pt s ≠ -1) : sngl pt o t (s + 1) = (E, t2) := by
  show (if pt s = -1 then _ else _) = _
  rw [if_neg hs, h]
theorem sngl_s {pt t t2 : Nat → Int} {o s : Nat} {E : Int} (h : sngl pt o t s = (E, t2)) (hs : pt s = -1) : sngl pt o t (s + 1) = (E - 1, zu t2 (E - 1).toNat s) := by
  show (if pt s = -1 then _ else _) = _
  rw [if_pos hs, h]
theorem sngl_b {pt t : Nat → Int} {o : Nat} (hp : ∀ k, k < 256 → -1 ≤ pt k ∧ pt k ≤ 65536) : ∀ {s : Nat} {E : Int} {t2 : Nat → Int}, s ≤ 256 → sngl pt o t s = (E, t2) → 2 ^ o - cum pt s ≤ E ∧ E ≤ 2 ^ o
  | 0, E, t2, _, h => by
    have : (2 : Int) ^ o = E := congrArg Prod.fst h
    subst this
    exact ⟨by show (2 : Int) ^ o - 0 ≤ 2 ^ o; omega, Int.le_refl _⟩
  | s + 1, E, t2, hs, h => by
    have ih := sngl_b hp (s := s) (E := (sngl pt o t s).1) (t2 := (sngl pt o t s).2) (by omega) rfl
    have hw := wgt_b (hp s (by omega))
    show 2 ^ o - (cum pt s + wgt (pt s)) ≤ E ∧ _
    by_cases e : pt s = -1
    · rw [sngl_s (E := (sngl pt o t s).1) (t2 := (sngl pt o t s).2) rfl e] at h
      have h1 : (sngl pt o t s).1 - 1 = E := congrArg Prod.fst h
      have hw1 : wgt (pt s) = 1 := if_pos e
      omega
    · rw [sngl_n (E := (sngl pt o t s).1) (t2 := (sngl pt o t s).2) rfl e] at h
      have h1 : (sngl pt o t s).1 = E := congrArg Prod.fst h
      omega
/-- the next symbol that still wants cells -/
def adv (pt : Nat → Int) : Nat → Nat → Int → Nat × Int
  | 0, s, l => (s, l)
  | n + 1, s, l => if l ≤ 0 ∧ s < 255 then adv pt n (s + 1) (pt (s + 1)) else (s, l)
def advR (pt : Nat → Int) (T : Nat × Int) (s : Nat) (l : Int) : Prop := ∃ n : Nat, 256 ≤ n + s ∧ adv pt n s l = T
theorem advR_0 {pt : Nat → Int} {s : Nat} {l : Int} : advR pt (adv pt 256 s l) s l := ⟨256, by omega, rfl⟩
theorem advR_s {pt : Nat → Int} {T : Nat × Int} {s : Nat} {l : Int} (h : advR pt T s l) (hc : l ≤ 0 ∧ s < 255) : advR pt T (s + 1) (pt (s + 1)) := by
  obtain ⟨n, h1, h2⟩ := h
  cases n with
  | zero => omega
  | succ n =>
    refine ⟨n, by omega, ?_⟩
    rw [← h2]
    exact (if_pos hc).symm
theorem advR_e {pt : Nat → Int} {T : Nat × Int} {s : Nat} {l : Int} (h : advR pt T s l) (hc : ¬ (l ≤ 0 ∧ s < 255)) : T = (s, l) := by
  obtain ⟨n, h1, h2⟩ := h
  rw [← h2]
  cases n with
  | zero => rfl
  | succ n => exact if_neg hc
def sprd (pt : Nat → Int) (o : Nat) (e : Int) (t : Nat → Int) : Nat → (Nat → Int) × Nat × Int
  | 0 => (t, 0, pt 0)
  | k + 1 => if (cel o k : Int) < e then (zu (sprd pt o e t k).1 (cel o k) (adv pt 256 (sprd pt o e t k).2.1 (sprd pt o e t k).2.2).1, (adv pt 256 (sprd pt o e t k).2.1 (sprd pt o e t k).2.2).1, (adv pt 256 (sprd pt o e t k).2.1 (sprd pt o e t k).2.2).2 - 1) else sprd pt o e t k
theorem sprd_n {pt t t2 : Nat → Int} {o k s : Nat} {e l : Int} (h : sprd pt o e t k = (t2, s, l)) (hc : e ≤ (cel o k : Int)) : sprd pt o e t (k + 1) = (t2, s, l) := by
  show (if (cel o k : Int) < e then _ else _) = _
  rw [if_neg (by omega), h]
theorem sprd_s {pt t t2 : Nat → Int} {o k s s2 : Nat} {e l l2 : Int} (h : sprd pt o e t k = (t2, s, l)) (hc : (cel o k : Int) < e) (ha : adv pt 256 s l = (s2, l2)) : sprd pt o e t (k + 1) = (zu t2 (cel o k) s2, s2, l2 - 1) := by
  show (if (cel o k : Int) < e then _ else _) = _
  rw [if_pos hc, h]
  show (zu t2 (cel o k) (adv pt 256 s l).1, (adv pt 256 s l).1, (adv pt 256 s l).2 - 1) = _
  rw [ha]
/-- the class's symbol and what is left of it: before the first one it stands at -1 -/
def stC (pt : Nat → Int) (T : Nat × Int) (a b : Int) : Prop := (a = -1 ∧ b = 0 ∧ advR pt T 0 (pt 0)) ∨ ∃ s : Nat, a = (s : Int) ∧ s ≤ 255 ∧ advR pt T s b
theorem stC_s {pt : Nat → Int} {T : Nat × Int} {a b : Int} (h : stC pt T a b) (hb : b ≤ 0) (ha : a < 255) : stC pt T (a + 1) (pt (a + 1).toNat) := by
  rcases h with ⟨rfl, rfl, h⟩ | ⟨s, rfl, h1, h⟩
  · exact Or.inr ⟨0, by omega, by omega, h⟩
  · refine Or.inr ⟨s + 1, by omega, by omega, ?_⟩
    rw [show ((s : Int) + 1).toNat = s + 1 by omega]
    exact advR_s h ⟨hb, by omega⟩
theorem stC_e {pt : Nat → Int} {T : Nat × Int} {a b : Int} (h : stC pt T a b) (hc : ¬ (b ≤ 0 ∧ a < 255)) : ∃ s : Nat, a = (s : Int) ∧ s ≤ 255 ∧ T = (s, b) := by
  rcases h with ⟨rfl, rfl, h⟩ | ⟨s, rfl, h1, h⟩
  · omega
  · exact ⟨s, rfl, h1, advR_e h (by omega)⟩
theorem stC_lo {pt : Nat → Int} {T : Nat × Int} {a b : Int} (h : stC pt T a b) : -1 ≤ a ∧ a ≤ 255 := by
  rcases h with ⟨rfl, rfl, h⟩ | ⟨s, rfl, h1, h⟩ <;> omega
/-- between two cells -/
def stD (pt : Nat → Int) (a b : Int) (s : Nat) (l : Int) : Prop := (a = -1 ∧ b = 0 ∧ s = 0 ∧ l = pt 0) ∨ (a = (s : Int) ∧ s ≤ 255 ∧ b = l)
theorem stD_C {pt : Nat → Int} {a b l : Int} {s : Nat} (h : stD pt a b s l) : stC pt (adv pt 256 s l) a b := by
  rcases h with ⟨rfl, rfl, rfl, rfl⟩ | ⟨rfl, h1, rfl⟩
  · exact Or.inl ⟨rfl, rfl, advR_0⟩
  · exact Or.inr ⟨s, rfl, h1, advR_0⟩
/-- the table of a share's cells -/
def tbE (pt : Nat → Int) (o : Nat) (t : Nat → Int) : Int := (sngl pt o t 256).1
def tbT (pt : Nat → Int) (o : Nat) (t : Nat → Int) : Nat → Int := (sprd pt o (sngl pt o t 256).1 (sngl pt o t 256).2 (2 ^ o)).1
/-! numbers of cells -/
def nmb (gP gS : Nat → Int) (k : Nat) : Int := wgt (gP (gS k).toNat) + cntS gS (gS k) k
def numT4 (gP gS : Nat → Int) (o n : Nat) (gB gA gC : Nat → Int) : Prop := ∀ k, k < n → gB k = (o : Int) - (zlog (nmb gP gS k) : Int) ∧ gA k = nmb gP gS k * 2 ^ (o - zlog (nmb gP gS k)) - 2 ^ o ∧ gC (cum gP (gS k).toNat + cntS gS (gS k) k).toNat = k
theorem numT4_0 {gP gS gB gA gC : Nat → Int} {o : Nat} : numT4 gP gS o 0 gB gA gC := fun k h => absurd h (by omega)
theorem cnt_mono {g : Nat → Int} {v : Int} {a : Nat} : ∀ {b : Nat}, a ≤ b → cntS g v a ≤ cntS g v b
  | 0, h => by rw [show a = 0 by omega]; exact Int.le_refl _
  | b + 1, h => by
    by_cases e : a = b + 1
    · rw [e]; exact Int.le_refl _
    · have := cnt_mono (g := g) (v := v) (a := a) (b := b) (by omega)
      show _ ≤ cntS g v b + (if g b = v then 1 else 0)
      split <;> omega
theorem cnt_lt {g : Nat → Int} {v : Int} {k n : Nat} (h : g k = v) (hk : k < n) : cntS g v k < cntS g v n := by
  have h1 := cntS_s (n := k) h
  have h2 := cnt_mono (g := g) (v := v) (a := k + 1) (b := n) (by omega)
  omega
theorem numN_s {gP gS n2 : Nat → Int} {k v : Nat} (h : ∀ s : Nat, s < 256 → n2 s = wgt (gP s) + cntS gS s k) (hv : gS k = (v : Int)) (hv6 : v < 256) : ∀ s : Nat, s < 256 → zu n2 v (n2 v + 1) s = wgt (gP s) + cntS gS s (k + 1) := by
  intro s hs
  by_cases e : s = v
  · subst e
    rw [zu_s, cntS_s hv, h s hs]
    omega
  · rw [zu_n e, cntS_n (by omega), h s hs]
/-- two cells have two slots -/
theorem slot_apart {gP gS : Nat → Int} {N k j : Nat} (hp : ∀ k, k < 256 → -1 ≤ gP k ∧ gP k ≤ 65536) (hgs : ∀ k : Nat, k < N → 0 ≤ gS k ∧ gS k < 256) (hcn : ∀ s : Nat, s < 256 → cntS gS s N ≤ wgt (gP s)) (hk : k < N) (hj : j < k) : cum gP (gS j).toNat + cntS gS (gS j) j ≠ cum gP (gS k).toNat + cntS gS (gS k) k := by
  have a1 := hgs k hk
  have a2 := hgs j (by omega)
  have b1 := cntS_lo gS (gS k) k
  have b2 := cntS_lo gS (gS j) j
  have c1 := cnt_lt (g := gS) (v := gS k) rfl hk
  have c2 := cnt_lt (g := gS) (v := gS j) rfl (show j < N by omega)
  have d1 := hcn (gS k).toNat (by omega)
  have d2 := hcn (gS j).toNat (by omega)
  rw [show (((gS k).toNat : Nat) : Int) = gS k by omega] at d1
  rw [show (((gS j).toNat : Nat) : Int) = gS j by omega] at d2
  rcases (by omega : gS j = gS k ∨ (gS j).toNat < (gS k).toNat ∨ (gS k).toNat < (gS j).toNat) with e | e | e
  · have c3 := cnt_lt (g := gS) (v := gS k) e hj
    rw [e]
    omega
  · have m := cum_mono hp (a := (gS j).toNat + 1) (b := (gS k).toNat) (by omega) (by omega)
    have m2 : cum gP ((gS j).toNat + 1) = cum gP (gS j).toNat + wgt (gP (gS j).toNat) := rfl
    omega
  · have m := cum_mono hp (a := (gS k).toNat + 1) (b := (gS j).toNat) (by omega) (by omega)
    have m2 : cum gP ((gS k).toNat + 1) = cum gP (gS k).toNat + wgt (gP (gS k).toNat) := rfl
    omega
theorem numT4_s {gP gS gB gA gC gF : Nat → Int} {o k v : Nat} (h : numT4 gP gS o k gB gA gC) (hp : ∀ k, k < 256 → -1 ≤ gP k ∧ gP k ≤ 65536) (_ : cum gP 256 = 2 ^ o) (hgs : ∀ k : Nat, (k : Int) < 2 ^ o → 0 ≤ gS k ∧ gS k < 256) (hcn : ∀ s : Nat, s < 256 → cntS gS s (2 ^ o) ≤ wgt (gP s)) (hk : (k : Int) < 2 ^ o) (hv : gS k = (v : Int)) (hF : ∀ k, k < 256 → gF k = cum gP k) :
    numT4 gP gS o (k + 1) (zu gB ((k : Int)).toNat ((o : Int) - (zlog (wgt (gP v) + cntS gS v k) : Int))) (zu gA ((k : Int)).toNat ((wgt (gP v) + cntS gS v k) * 2 ^ (o - zlog (wgt (gP v) + cntS gS v k)) - 2 ^ o)) (zu gC (gF (gS k).toNat + (wgt (gP v) + cntS gS v k) - wgt (gP (gS k).toNat)).toNat (k : Int)) := by
  have hpn := p2n o
  have hgk := hgs k hk
  have hvn : (gS k).toNat = v := by omega
  have hn : nmb gP gS k = wgt (gP v) + cntS gS v k := by unfold nmb; rw [hvn, hv]
  have hsl : gF (gS k).toNat + (wgt (gP v) + cntS gS v k) - wgt (gP (gS k).toNat) = cum gP (gS k).toNat + cntS gS (gS k) k := by
    rw [hvn, hF v (by omega), hv]
    omega
  have hsl0 : 0 ≤ cum gP (gS k).toNat + cntS gS (gS k) k := by
    have q1 := cum_lo hp (b := (gS k).toNat) (by omega)
    have q2 := cntS_lo gS (gS k) k
    omega
  rw [Int.toNat_natCast, hsl, ← hn]
  intro j hj
  by_cases e : j = k
  · subst e
    rw [zu_s, zu_s, zu_s]
    exact ⟨rfl, rfl, rfl⟩
  · have hjk : j < k := by omega
    have hne := slot_apart (N := 2 ^ o) hp (fun k hk => hgs k (by omega)) hcn (show k < 2 ^ o by omega) hjk
    have hj0 : 0 ≤ cum gP (gS j).toNat + cntS gS (gS j) j := by
      have q0 := hgs j (by omega)
      have q1 := cum_lo hp (b := (gS j).toNat) (by omega)
      have q2 := cntS_lo gS (gS j) j
      omega
    rw [zu_n e, zu_n e, zu_n (by omega)]
    exact h j hjk
