/-! what is read of bytes below N depends on those alone -/
theorem nbI_cg {b b2 : Nat → Int} {N q : Nat} (hb : ∀ k, k < N → b k = b2 k) : ∀ {n : Nat}, q + n ≤ 8 * N → nbI b q n = nbI b2 q n
  | 0, _ => rfl
  | n + 1, h => by
    show nbI b q n + b ((q + n) / 8) / 2 ^ ((q + n) % 8) % 2 * 2 ^ n = nbI b2 q n + b2 ((q + n) / 8) / 2 ^ ((q + n) % 8) % 2 * 2 ^ n
    rw [nbI_cg hb (by omega), hb _ (by omega)]
theorem bt_cg {b b2 : Nat → Int} {N q : Nat} (hb : ∀ k, k < N → b k = b2 k) (h : q + 1 ≤ 8 * N) : bt b q = bt b2 q := by
  unfold bt
  rw [hb _ (by omega)]
theorem tk_cg {b b2 : Nat → Int} {N q : Nat} {av R : Int} (hb : ∀ k, k < N → b k = b2 k) (h : (q : Int) + av ≤ 8 * N) : tkZ b q av R = tkZ b2 q av R ∧ (tkZ b q av R ≠ -1 → tkU b q R = tkU b2 q R) := by
  by_cases h1 : av < numK R
  · have e : tkZ b q av R = -1 := if_pos h1
    have e2 : tkZ b2 q av R = -1 := if_pos h1
    exact ⟨e.trans e2.symm, fun q => absurd e q⟩
  · have en : nbI b q (numK R) = nbI b2 q (numK R) := nbI_cg hb (by omega)
    refine ⟨?_, fun _ => by unfold tkU; rw [en]⟩
    unfold tkZ
    rw [if_neg h1, if_neg h1, en]
    by_cases h2 : av < numK R + 1
    · rw [if_pos h2, if_pos h2]
    · rw [bt_cg (q := q + numK R) hb (by omega)]
theorem bz_cg {b b2 : Nat → Int} {N q0 last : Nat} {A : Int} (hb : ∀ k, k < N → b k = b2 k) (hA : (q0 : Int) + A ≤ 8 * N) : ∀ {n t s : Nat}, bz b q0 A last n t s = bz b2 q0 A last n t s
  | 0, _, _ => rfl
  | n + 1, t, s => by
    show (if s ≤ last then (if A < (t : Int) + 2 then (-1, t) else if nbI b (q0 + t) 2 < 3 then ((s : Int) + nbI b (q0 + t) 2, t + 2) else bz b q0 A last n (t + 2) (s + 3)) else ((s : Int), t)) = (if s ≤ last then (if A < (t : Int) + 2 then (-1, t) else if nbI b2 (q0 + t) 2 < 3 then ((s : Int) + nbI b2 (q0 + t) 2, t + 2) else bz b2 q0 A last n (t + 2) (s + 3)) else ((s : Int), t))
    by_cases h : A < (t : Int) + 2
    · rw [if_pos h, if_pos h]
    · rw [nbI_cg (q := q0 + t) (n := 2) hb (by omega), bz_cg hb hA]
theorem rd_cg {b b2 : Nat → Int} {N q0 last : Nat} {A : Int} (hb : ∀ k, k < N → b k = b2 k) (hA : (q0 : Int) + A ≤ 8 * N) : ∀ {n t s : Nat} {R : Int} {pt : Nat → Int}, rd b q0 A last n t s R pt = rd b2 q0 A last n t s R pt
  | 0, _, _, _, _ => rfl
  | n + 1, t, s, R, pt => by
    obtain ⟨e1, e2⟩ := tk_cg (q := q0 + t) (av := A - t) (R := R) hb (by omega)
    unfold rd
    by_cases h : tkZ b (q0 + t) (A - t) R = -1
    · rw [if_pos h, if_pos (e1 ▸ h)]
    · rw [e2 h, ← e1]
      simp only [bz_cg (b := b) (b2 := b2) hb hA, rd_cg (b := b) (b2 := b2) hb hA (n := n)]
theorem rdT_cg {b b2 : Nat → Int} {N q0 y : Nat} {A : Int} (hb : ∀ k, k < N → b k = b2 k) (hA : (q0 : Int) + A ≤ 8 * N) (h4 : 4 ≤ A) : rdT b q0 A y = rdT b2 q0 A y := by
  unfold rdT
  rw [nbI_cg (q := q0) (n := 4) hb (by omega), rd_cg hb hA]
theorem rdQ_cg {b b2 : Nat → Int} {N q0 y : Nat} {A x z : Int} (hb : ∀ k, k < N → b k = b2 k) (hA : (q0 : Int) + A ≤ 8 * N) (h : rdQ b q0 A x y z) : rdQ b2 q0 A x y z := by
  by_cases h4 : 4 ≤ A
  · unfold rdQ at h ⊢
    rw [← nbI_cg (q := q0) (n := 4) hb (by omega), ← rdT_cg hb hA h4]
    exact h
  · rcases h with h | h | h
    · exact Or.inl h
    · exact absurd h.1 h4
    · exact absurd h.1 h4
theorem rdG_cg {b b2 : Nat → Int} {N q0 y : Nat} {A x z : Int} (hb : ∀ k, k < N → b k = b2 k) (hA : (q0 : Int) + A ≤ 8 * N) (h : rdG b q0 A x y z) : rdG b2 q0 A x y z := by
  have h4 := h.1
  unfold rdG at h ⊢
  rw [← nbI_cg (q := q0) (n := 4) hb (by omega), ← rdT_cg hb hA h4]
  exact h
theorem ecS_cg {gP gS : Nat → Int} {o : Nat} {b b2 : Nat → Int} {hi : Nat} (hb : ∀ k, k ≤ hi → b k = b2 k) : ∀ {j : Nat}, ecS gP gS o b hi j = ecS gP gS o b2 hi j
  | 0 => by
    show (fcF gS (b hi) 0 (2 ^ o), 0, 0) = (fcF gS (b2 hi) 0 (2 ^ o), 0, 0)
    rw [hb hi (Nat.le_refl _)]
  | j + 1 => by
    unfold ecS
    rw [ecS_cg hb (j := j), hb (hi - (j + 1)) (by omega)]
theorem dcS_cg {gP gS : Nat → Int} {o : Nat} {b b2 : Nat → Int} {N q0 : Nat} {u0 : Int} (hb : ∀ k, k < N → b k = b2 k) (h0 : 0 ≤ u0) (hq : (q0 : Int) + u0 + o ≤ 8 * N) : ∀ {j : Nat}, dcS gP gS o b q0 u0 j = dcS gP gS o b2 q0 u0 j
  | 0 => by
    show (u0, (nbI b (q0 + u0.toNat) o).toNat) = (u0, (nbI b2 (q0 + u0.toNat) o).toNat)
    rw [nbI_cg hb (by omega)]
  | j + 1 => by
    have ih := dcS_cg (gP := gP) (gS := gS) hb h0 hq (j := j)
    have hm := dc_mono (gP := gP) (gS := gS) (o := o) (b := b2) (q0 := q0) (u0 := u0) (Nat.zero_le j)
    have hm : (dcS gP gS o b2 q0 u0 j).1 ≤ u0 := hm
    unfold dcS
    rw [ih]
    by_cases e : (dcS gP gS o b2 q0 u0 j).1 - bW gP gS o (dcS gP gS o b2 q0 u0 j).2 < 0
    · rw [if_pos e, if_pos e]
    · rw [nbI_cg hb (by omega)]
theorem cnB_cg {b b2 : Nat → Int} {N a n s : Nat} (hb : ∀ k, k < N → b k = b2 k) (h : a + n ≤ N) : cnB b a n s = cnB b2 a n s := cntS_congr (fun k hk => hb _ (by omega))
/-! the cells' table depends on the points of 256 symbols alone -/
theorem sngl_cg {p p2 t : Nat → Int} {o : Nat} (h : ∀ k, k < 256 → p k = p2 k) : ∀ {n : Nat}, n ≤ 256 → sngl p o t n = sngl p2 o t n
  | 0, _ => rfl
  | n + 1, hn => by
    unfold sngl
    rw [sngl_cg h (n := n) (by omega), h n (by omega)]
theorem adv_cg {p p2 : Nat → Int} (h : ∀ k, k < 256 → p k = p2 k) : ∀ {n s : Nat} {l : Int}, adv p n s l = adv p2 n s l
  | 0, _, _ => rfl
  | n + 1, s, l => by
    unfold adv
    by_cases e : l ≤ 0 ∧ s < 255
    · rw [if_pos e, if_pos e, h (s + 1) (by omega)]
      exact adv_cg h
    · rw [if_neg e, if_neg e]
theorem sprd_cg {p p2 t : Nat → Int} {o : Nat} {e : Int} (h : ∀ k, k < 256 → p k = p2 k) : ∀ {n : Nat}, sprd p o e t n = sprd p2 o e t n
  | 0 => by
    show (t, 0, p 0) = (t, 0, p2 0)
    rw [h 0 (by omega)]
  | n + 1 => by
    unfold sprd
    rw [sprd_cg h (n := n), adv_cg h]
theorem tb_cg {p p2 t : Nat → Int} {o : Nat} (h : ∀ k, k < 256 → p k = p2 k) : tbT p o t = tbT p2 o t := by
  unfold tbT
  rw [sngl_cg h (Nat.le_refl _), sprd_cg h]
theorem sngl_rg {p t : Nat → Int} {o : Nat} (ht : ∀ k, k < 4096 → 0 ≤ t k ∧ t k < 256) : ∀ {n : Nat}, n ≤ 256 → ∀ k, k < 4096 → 0 ≤ (sngl p o t n).2 k ∧ (sngl p o t n).2 k < 256
  | 0, _ => ht
  | n + 1, hn => by
    have ih := sngl_rg (p := p) (o := o) ht (n := n) (by omega)
    unfold sngl
    by_cases e : p n = -1
    · rw [if_pos e]
      exact zu_rg ih (by omega)
    · rw [if_neg e]; exact ih
theorem sprd_rg {p t : Nat → Int} {o : Nat} {e : Int} (ht : ∀ k, k < 4096 → 0 ≤ t k ∧ t k < 256) : ∀ {n : Nat}, (sprd p o e t n).2.1 ≤ 255 ∧ ∀ k, k < 4096 → 0 ≤ (sprd p o e t n).1 k ∧ (sprd p o e t n).1 k < 256
  | 0 => ⟨by show 0 ≤ 255; omega, ht⟩
  | n + 1 => by
    obtain ⟨i1, i2⟩ := sprd_rg (p := p) (o := o) (e := e) ht (n := n)
    have a := (adv_spec (pt := p) 256 (sprd p o e t n).2.1 (sprd p o e t n).2.2 i1 (by omega)).1
    unfold sprd
    by_cases q : (cel o n : Int) < e
    · rw [if_pos q]
      exact ⟨a.2, zu_rg i2 (by omega)⟩
    · rw [if_neg q]; exact ⟨i1, i2⟩
theorem tb_rg {p t : Nat → Int} {o : Nat} (ht : ∀ k, k < 4096 → 0 ≤ t k ∧ t k < 256) : ∀ k, k < 4096 → 0 ≤ tbT p o t k ∧ tbT p o t k < 256 := (sprd_rg (sngl_rg ht (Nat.le_refl _))).2
theorem rI_mO {V B : Nat} {L hd hn ov : Int} {f g : Nat → Int} (h1 : rI V (8 * ((B + 7) / 8)) ((B + 7) / 8) L hd hn ov f) (h2 : mO V B g) : L = (((B + 7) / 8 : Nat) : Int) ∧ L ≤ 6000 ∧ (∀ k : Nat, (k : Int) < L → f k % 256 = g k) ∧ (∀ k, -128 ≤ f k ∧ f k < 128) ∧ ∀ k, k < 6000 → 0 ≤ g k ∧ g k < 256 := by
  obtain ⟨a1, a2, a3, a4, a5, a6, a7, a8⟩ := h1
  obtain ⟨b1, b2, b3⟩ := h2
  have hc := cap_spec ((B + 7) / 8)
  refine ⟨by omega, by omega, fun k hk => ?_, a8, fun k hk => ?_⟩
  · rw [a7 k (by omega), b3 k (by omega)]
  · rw [b3 k hk]; omega
/-! the law: what holds between two calls; a call on both sides keeps it, and both answer alike -/
def cI (fc xc : Nat → Int) : Prop := ∀ k, k < 256 → xc k = fc k ∧ 0 ≤ fc k ∧ fc k ≤ 65535
def pI (gP xp : Nat → Int) : Prop := ∀ k, k < 256 → xp k = gP k ∧ -1 ≤ gP k ∧ gP k ≤ 65536
def tI (gS xs : Nat → Int) : Prop := ∀ k, k < 4096 → xs k = gS k ∧ 0 ≤ gS k ∧ gS k < 256
def bI (L : Int) (f x : Nat → Int) : Prop := (∀ k : Nat, (k : Int) < L → f k % 256 = x k) ∧ (∀ k, -128 ≤ f k ∧ f k < 128) ∧ ∀ k, k < 6000 → 0 ≤ x k ∧ x k < 256
def lwI (o : Nat) (oz oy ps go Li iL Lo oL : Int) (fc xc gP xp gS xs gB gA gC gF fi xi fo xo fx : Nat → Int) : Prop :=
  (oz = (o : Int) ∧ oy = (o : Int) ∧ go = ps ∧ iL = Li ∧ oL = Lo) ∧ (o = 0 ∨ (5 ≤ o ∧ o ≤ 12)) ∧ (0 ≤ ps ∧ ps ≤ Li ∧ Li ≤ 6000 ∧ 0 ≤ Lo ∧ Lo ≤ 6000) ∧ cI fc xc ∧ pI gP xp ∧ tI gS xs ∧ bI Li fi xi ∧ bI Lo fo xo ∧ (∀ k, -128 ≤ fx k ∧ fx k < 128) ∧ (0 < o → shOK gP gS gB gA gC gF o ∧ cum gP 256 = 2 ^ o)
def lwN (o : Nat) (ps Li Lo : Int) (fc gP gS gB gA gC gF fi xi fo xo fx : Nat → Int) : Prop := lwI o (o : Int) (o : Int) ps ps Li Li Lo Lo fc fc gP gP gS gS gB gA gC gF fi xi fo xo fx
section LWST
variable {o : Nat} {ps Li Lo : Int} {fc gP gS gB gA gC gF gN fi xi fo xo fx : Nat → Int}
theorem lw_norm {oz oy go iL oL : Int} {xc xp xs : Nat → Int} (h : lwI o oz oy ps go Li iL Lo oL fc xc gP xp gS xs gB gA gC gF fi xi fo xo fx) : (∀ k, k < 256 → xc k = fc k) ∧ (∀ k, k < 256 → xp k = gP k) ∧ (∀ k, k < 4096 → xs k = gS k) ∧ lwN o ps Li Lo fc gP gS gB gA gC gF fi xi fo xo fx := by
  obtain ⟨e0, ho, hr, hc, hp, ht, hi, hoo, hx, hs⟩ := h
  exact ⟨fun k hk => (hc k hk).1, fun k hk => (hp k hk).1, fun k hk => (ht k hk).1, ⟨rfl, rfl, rfl, rfl, rfl⟩, ho, hr, fun k hk => ⟨rfl, (hc k hk).2⟩, fun k hk => ⟨rfl, (hp k hk).2⟩, fun k hk => ⟨rfl, (ht k hk).2⟩, hi, hoo, hx, hs⟩
theorem lw_use (h : lwN o ps Li Lo fc gP gS gB gA gC gF fi xi fo xo fx) : (0 ≤ Li ∧ Li ≤ 6000) ∧ (0 ≤ ps ∧ ps ≤ Li) ∧ (0 ≤ Lo ∧ Lo ≤ 6000) ∧ (o = 0 ∨ (5 ≤ o ∧ o ≤ 12)) ∧ o ≤ 12 ∧ (∀ k, k < 256 → 0 ≤ fc k ∧ fc k ≤ 65535) ∧ (∀ k, k < 256 → -1 ≤ gP k ∧ gP k ≤ 65536) ∧ (∀ k, k < 4096 → 0 ≤ gS k ∧ gS k < 256) ∧ (∀ k, -128 ≤ fi k ∧ fi k < 128) ∧ (∀ k, k < 6000 → 0 ≤ xi k ∧ xi k < 256) ∧ (∀ k, -128 ≤ fo k ∧ fo k < 128) ∧ (∀ k, k < 6000 → 0 ≤ xo k ∧ xo k < 256) ∧ (∀ k, -128 ≤ fx k ∧ fx k < 128) ∧ (0 < o → shOK gP gS gB gA gC gF o) ∧ (0 < o → cum gP 256 = 2 ^ o) ∧ (0 < o → ∀ k : Nat, (k : Int) < 2 ^ o → 1 ≤ nmb gP gS k ∧ nmb gP gS k < 2 ^ (o + 1)) ∧ (0 < o → ∀ v : Nat, v < 256 → cntS gS v (2 ^ o) = wgt (gP v)) := by
  obtain ⟨e0, ho, hr, hc, hp, ht, hi, hoo, hx, hs⟩ := h
  have hp2 : ∀ k, k < 256 → -1 ≤ gP k ∧ gP k ≤ 65536 := fun k hk => (hp k hk).2
  exact ⟨by omega, by omega, by omega, ho, by omega, fun k hk => (hc k hk).2, hp2, fun k hk => (ht k hk).2, hi.2.1, hi.2.2, hoo.2.1, hoo.2.2, hx, fun q => (hs q).1, fun q => (hs q).2, fun q => sh_num (hs q).1 hp2 (hs q).2, fun q => (hs q).1.2.2.1⟩
theorem st_write (hI : lwN o ps Li Lo fc gP gS gB gA gC gF fi xi fo xo fx) {z z2 n L1 ov1 ovi iL1 : Int} {f1 xi1 : Nat → Int} {x : Int64} (h1 : (z = 1 ∧ (1 ≤ n ∧ n ≤ 8 ∧ Li + n ≤ 6000) ∧ L1 = Li + n ∧ ov1 = ovi ∧ (∀ k, -128 ≤ f1 k ∧ f1 k < 128) ∧ (∀ k : Nat, (k : Int) < Li → f1 k = fi k) ∧ ∀ j : Nat, (j : Int) < n → f1 (Li.toNat + j) % 256 = wbyte x (n - 1 - j).toNat) ∨ (z = 0 ∧ ¬ (1 ≤ n ∧ n ≤ 8 ∧ Li + n ≤ 6000) ∧ L1 = Li ∧ ov1 = ovi ∧ f1 = fi)) (h2 : (z2 = 1 ∧ (1 ≤ n ∧ n ≤ 8 ∧ Li + n ≤ 6000) ∧ iL1 = Li + n ∧ (∀ k, k < 6000 → 0 ≤ xi1 k ∧ xi1 k < 256) ∧ (∀ k : Nat, (k : Int) < Li → xi1 k = xi k) ∧ ∀ j : Nat, (j : Int) < n → xi1 (Li.toNat + j) = wbyte x (n - 1 - j).toNat) ∨ (z2 = 0 ∧ ¬ (1 ≤ n ∧ n ≤ 8 ∧ Li + n ≤ 6000) ∧ iL1 = Li ∧ xi1 = xi)) : z = z2 ∧ lwI o (o : Int) (o : Int) ps ps L1 iL1 Lo Lo fc fc gP gP gS gS gB gA gC gF f1 xi1 fo xo fx := by
  obtain ⟨e0, ho, hr, hc, hp, ht, hi, hoo, hx, hs⟩ := hI
  rcases h1 with ⟨rfl, a, rfl, -, b, c, d⟩ | ⟨rfl, a, rfl, -, rfl⟩ <;> rcases h2 with ⟨rfl, a', rfl, b', c', d'⟩ | ⟨rfl, a', rfl, rfl⟩
  · refine ⟨rfl, ⟨rfl, rfl, rfl, rfl, rfl⟩, ho, by omega, hc, hp, ht, ⟨fun k hk => ?_, b, b'⟩, hoo, hx, hs⟩
    by_cases e : (k : Int) < Li
    · rw [c k e, c' k e]; exact hi.1 k e
    · have q1 := d (k - Li.toNat) (by omega)
      have q2 := d' (k - Li.toNat) (by omega)
      rw [show Li.toNat + (k - Li.toNat) = k by omega] at q1 q2
      rw [q1, q2]
  · exact absurd a a'
  · exact absurd a' a
  · exact ⟨rfl, ⟨rfl, rfl, rfl, rfl, rfl⟩, ho, hr, hc, hp, ht, hi, hoo, hx, hs⟩
theorem st_turn (hI : lwN o ps Li Lo fc gP gS gB gA gC gF fi xi fo xo fx) {xi1 : Nat → Int} (h : (∀ k : Nat, (k : Int) < Lo → xi1 k = xo k) ∧ ∀ k : Nat, Lo ≤ (k : Int) → xi1 k = xi k) : lwI o (o : Int) (o : Int) 0 0 Lo Lo Lo Lo fc fc gP gP gS gS gB gA gC gF (fun k => if k < 6000 then fo k else fi k) xi1 fo xo fx := by
  obtain ⟨e0, ho, hr, hc, hp, ht, hi, hoo, hx, hs⟩ := hI
  refine ⟨⟨rfl, rfl, rfl, rfl, rfl⟩, ho, by omega, hc, hp, ht, ⟨fun k hk => ?_, fun k => ?_, fun k hk => ?_⟩, hoo, hx, hs⟩
  · show (if k < 6000 then fo k else fi k) % 256 = xi1 k
    rw [if_pos (by omega), h.1 k hk]; exact hoo.1 k hk
  · show -128 ≤ (if k < 6000 then fo k else fi k) ∧ (if k < 6000 then fo k else fi k) < 128
    by_cases e : k < 6000
    · rw [if_pos e]; exact hoo.2.1 k
    · rw [if_neg e]; exact hi.2.1 k
  · by_cases e : (k : Int) < Lo
    · rw [h.1 k e]; exact hoo.2.2 k hk
    · rw [h.2 k (by omega)]; exact hi.2.2 k hk
theorem st_clear (hI : lwN o ps Li Lo fc gP gS gB gA gC gF fi xi fo xo fx) {fc1 xc1 : Nat → Int} (h1 : ∀ k, k < 256 → fc1 k = 0) (h2 : ∀ k, k < 256 → xc1 k = 0) : lwI o (o : Int) (o : Int) 0 0 0 0 Lo Lo fc1 xc1 gP gP gS gS gB gA gC gF fi xi fo xo fx := by
  obtain ⟨e0, ho, hr, hc, hp, ht, hi, hoo, hx, hs⟩ := hI
  exact ⟨⟨rfl, rfl, rfl, rfl, rfl⟩, ho, by omega, fun k hk => by rw [h1 k hk, h2 k hk]; omega, hp, ht, ⟨fun k hk => absurd hk (by omega), hi.2⟩, hoo, hx, hs⟩
theorem st_place (hI : lwN o ps Li Lo fc gP gS gB gA gC gF fi xi fo xo fx) {z z2 x ps1 go1 : Int} (h1 : (z = 1 ∧ 0 ≤ x ∧ x ≤ Li ∧ ps1 = x) ∨ (z = 0 ∧ (x < 0 ∨ Li < x) ∧ ps1 = ps)) (h2 : (z2 = 1 ∧ 0 ≤ x ∧ x ≤ Li ∧ go1 = x) ∨ (z2 = 0 ∧ (x < 0 ∨ Li < x) ∧ go1 = ps)) : z = z2 ∧ lwI o (o : Int) (o : Int) ps1 go1 Li Li Lo Lo fc fc gP gP gS gS gB gA gC gF fi xi fo xo fx := by
  obtain ⟨e0, ho, hr, hc, hp, ht, hi, hoo, hx, hs⟩ := hI
  exact ⟨by omega, ⟨rfl, rfl, by omega, rfl, rfl⟩, ho, by omega, hc, hp, ht, hi, hoo, hx, hs⟩
theorem st_count (hI : lwN o ps Li Lo fc gP gS gB gA gC gF fi xi fo xo fx) {z z2 x y : Int} {fc1 xc1 : Nat → Int} (h1 : (z = 1 ∧ (0 ≤ x ∧ x < 256 ∧ 0 ≤ y ∧ y ≤ 65535) ∧ fc1 = zu fc x.toNat y) ∨ (z = 0 ∧ ¬ (0 ≤ x ∧ x < 256 ∧ 0 ≤ y ∧ y ≤ 65535) ∧ fc1 = fc)) (h2 : (z2 = 1 ∧ (0 ≤ x ∧ x < 256 ∧ 0 ≤ y ∧ y ≤ 65535) ∧ xc1 = zu fc x.toNat y) ∨ (z2 = 0 ∧ ¬ (0 ≤ x ∧ x < 256 ∧ 0 ≤ y ∧ y ≤ 65535) ∧ xc1 = fc)) : z = z2 ∧ lwI o (o : Int) (o : Int) ps ps Li Li Lo Lo fc1 xc1 gP gP gS gS gB gA gC gF fi xi fo xo fx := by
  obtain ⟨e0, ho, hr, hc, hp, ht, hi, hoo, hx, hs⟩ := hI
  rcases h1 with ⟨rfl, a, rfl⟩ | ⟨rfl, a, rfl⟩ <;> rcases h2 with ⟨rfl, a', rfl⟩ | ⟨rfl, a', rfl⟩
  · refine ⟨rfl, ⟨rfl, rfl, rfl, rfl, rfl⟩, ho, hr, fun k hk => ⟨rfl, ?_⟩, hp, ht, hi, hoo, hx, hs⟩
    by_cases e : k = x.toNat
    · rw [e, zu_s]; omega
    · rw [zu_n e]; exact (hc k hk).2
  · exact absurd a a'
  · exact absurd a' a
  · exact ⟨rfl, ⟨rfl, rfl, rfl, rfl, rfl⟩, ho, hr, hc, hp, ht, hi, hoo, hx, hs⟩
theorem st_countAll (hI : lwN o ps Li Lo fc gP gS gB gA gC gF fi xi fo xo fx) {fc1 xc1 : Nat → Int} (h1 : ∀ k, k < 256 → fc1 k = cnB (fun j => fi j % 256) ps.toNat (Li - ps).toNat k) (h2 : ∀ k, k < 256 → xc1 k = cnB xi ps.toNat (Li - ps).toNat k) : lwI o (o : Int) (o : Int) ps ps Li Li Lo Lo fc1 xc1 gP gP gS gS gB gA gC gF fi xi fo xo fx := by
  obtain ⟨e0, ho, hr, hc, hp, ht, hi, hoo, hx, hs⟩ := hI
  refine ⟨⟨rfl, rfl, rfl, rfl, rfl⟩, ho, hr, fun k hk => ?_, hp, ht, hi, hoo, hx, hs⟩
  have q : cnB (fun j => fi j % 256) ps.toNat (Li - ps).toNat k = cnB xi ps.toNat (Li - ps).toNat k := cnB_cg (N := Li.toNat) (fun j hj => hi.1 j (by omega)) (by omega)
  have b := cntS_lo (fun j => xi (ps.toNat + j)) k (Li - ps).toNat
  have b2 : 0 ≤ cnB xi ps.toNat (Li - ps).toNat k ∧ cnB xi ps.toNat (Li - ps).toNat k ≤ ((Li - ps).toNat : Int) := b
  rw [h1 k hk, h2 k hk, q]
  omega
theorem st_sh (hI : lwN o ps Li Lo fc gP gS gB gA gC gF fi xi fo xo fx) {n : Nat} {o1 o2 ps1 go1 : Int} {F gP1 xp1 gS1 xs1 gB1 gA1 gC1 gF1 : Nat → Int} (h0 : ps1 = go1 ∧ 0 ≤ ps1 ∧ ps1 ≤ Li) (hn : 5 ≤ n ∧ n ≤ 12) (e1 : o1 = (n : Int)) (e2 : o2 = (n : Int)) (h1 : ∀ k, k < 256 → gP1 k = F k) (h2 : ∀ k, k < 256 → xp1 k = F k) (h3 : ∀ k, k < 256 → -1 ≤ F k ∧ F k ≤ 65536) (h4 : cum F 256 = 2 ^ n) (h5 : gS1 = tbT gP1 n gS) (h6 : xs1 = tbT xp1 n gS) (h7 : shOK gP1 gS1 gB1 gA1 gC1 gF1 n) : lwI n o1 o2 ps1 go1 Li Li Lo Lo fc fc gP1 xp1 gS1 xs1 gB1 gA1 gC1 gF1 fi xi fo xo fx := by
  obtain ⟨e0, ho, hr, hc, hp, ht, hi, hoo, hx, hs⟩ := hI
  have e3 : ∀ k, k < 256 → xp1 k = gP1 k := fun k hk => (h2 k hk).trans (h1 k hk).symm
  refine ⟨⟨e1, e2, h0.1.symm, rfl, rfl⟩, Or.inr hn, by omega, hc, fun k hk => ⟨e3 k hk, by rw [h1 k hk]; exact h3 k hk⟩, fun k hk => ⟨?_, ?_⟩, hi, hoo, hx, fun _ => ⟨h7, (cum_congr h1).trans h4⟩⟩
  · rw [h6, h5, tb_cg e3]
  · rw [h5]; exact tb_rg (fun j hj => (ht j hj).2) k hk
theorem st_same (hI : lwN o ps Li Lo fc gP gS gB gA gC gF fi xi fo xo fx) {ps1 go1 o1 o2 : Int} {gP1 gS1 gB1 gA1 gC1 gF1 xp1 xs1 : Nat → Int} (h0 : ps1 = go1 ∧ 0 ≤ ps1 ∧ ps1 ≤ Li) (e1 : o1 = (o : Int)) (e2 : o2 = (o : Int)) (a1 : gP1 = gP) (a2 : gS1 = gS) (a3 : gB1 = gB) (a4 : gA1 = gA) (a5 : gC1 = gC) (a6 : gF1 = gF) (a7 : xp1 = gP) (a8 : xs1 = gS) : lwI o o1 o2 ps1 go1 Li Li Lo Lo fc fc gP1 xp1 gS1 xs1 gB1 gA1 gC1 gF1 fi xi fo xo fx := by
  subst a1 a2 a3 a4 a5 a6 a7 a8
  obtain ⟨e0, ho, hr, hc, hp, ht, hi, hoo, hx, hs⟩ := hI
  exact ⟨⟨e1, e2, h0.1.symm, rfl, rfl⟩, ho, by omega, hc, hp, ht, hi, hoo, hx, hs⟩
theorem st_share (hI : lwN o ps Li Lo fc gP gS gB gA gC gF fi xi fo xo fx) {z z2 x o1 o2 : Int} {gP1 gS1 gB1 gA1 gC1 gF1 gN1 xp1 xs1 : Nat → Int} (h1 : (z = 1 ∧ sOK fc x ∧ o1 = x ∧ (∀ k, k < 256 → gP1 k = shP fc (2 ^ x.toNat) (sm fc 256) k) ∧ cum gP1 256 = 2 ^ x.toNat ∧ (∀ k, k < 256 → -1 ≤ gP1 k ∧ gP1 k ≤ 65536) ∧ gS1 = tbT gP1 x.toNat gS ∧ shOK gP1 gS1 gB1 gA1 gC1 gF1 x.toNat) ∨ (z = 0 ∧ ¬ sOK fc x ∧ o1 = (o : Int) ∧ gP1 = gP ∧ gS1 = gS ∧ gB1 = gB ∧ gA1 = gA ∧ gC1 = gC ∧ gF1 = gF ∧ gN1 = gN)) (h2 : (z2 = 1 ∧ sOK fc x ∧ o2 = x ∧ (∀ k, k < 256 → xp1 k = shP fc (2 ^ x.toNat) (sm fc 256) k) ∧ cum xp1 256 = 2 ^ x.toNat ∧ (∀ k, k < 256 → -1 ≤ xp1 k ∧ xp1 k ≤ 65536) ∧ xs1 = tbT xp1 x.toNat gS) ∨ (z2 = 0 ∧ ¬ sOK fc x ∧ o2 = (o : Int) ∧ xp1 = gP ∧ xs1 = gS)) : z = z2 ∧ ∃ n : Nat, lwI n o1 o2 ps ps Li Li Lo Lo fc fc gP1 xp1 gS1 xs1 gB1 gA1 gC1 gF1 fi xi fo xo fx := by
  have hr := hI.2.2.1
  rcases h1 with ⟨rfl, a, rfl, b1, b2, b3, b4, b5⟩ | ⟨rfl, a, b0, b1, b2, b3, b4, b5, b6, b7⟩ <;> rcases h2 with ⟨rfl, a', c0, c1, c2, c3, c4⟩ | ⟨rfl, a', c0, c1, c2⟩
  · have q1 := a.1
    have q2 := a.2.1
    exact ⟨rfl, o1.toNat, st_sh hI ⟨rfl, by omega⟩ (by omega) (by omega) (by omega) b1 c1 (fun k hk => by rw [← b1 k hk]; exact b3 k hk) ((cum_congr b1).symm.trans b2) b4 c4 b5⟩
  · exact absurd a a'
  · exact absurd a' a
  · exact ⟨rfl, o, st_same hI ⟨rfl, by omega⟩ b0 c0 b1 b2 b3 b4 b5 b6 c1 c2⟩
theorem st_just (hI : lwN o ps Li Lo fc gP gS gB gA gC gF fi xi fo xo fx) {z z2 x o1 o2 : Int} {gP1 gS1 gB1 gA1 gC1 gF1 gN1 xp1 xs1 : Nat → Int} (h1 : (z = 1 ∧ jOK fc x ∧ o1 = x ∧ (∀ k, k < 256 → gP1 k = jp fc k) ∧ gS1 = tbT gP1 x.toNat gS ∧ shOK gP1 gS1 gB1 gA1 gC1 gF1 x.toNat) ∨ (z = 0 ∧ ¬ jOK fc x ∧ o1 = (o : Int) ∧ gP1 = gP ∧ gS1 = gS ∧ gB1 = gB ∧ gA1 = gA ∧ gC1 = gC ∧ gF1 = gF ∧ gN1 = gN)) (h2 : (z2 = 1 ∧ jOK fc x ∧ o2 = x ∧ (∀ k, k < 256 → xp1 k = jp fc k) ∧ xs1 = tbT xp1 x.toNat gS) ∨ (z2 = 0 ∧ ¬ jOK fc x ∧ o2 = (o : Int) ∧ xp1 = gP ∧ xs1 = gS)) : z = z2 ∧ ∃ n : Nat, lwI n o1 o2 ps ps Li Li Lo Lo fc fc gP1 xp1 gS1 xs1 gB1 gA1 gC1 gF1 fi xi fo xo fx := by
  have hr := hI.2.2.1
  have hc := hI.2.2.2.1
  rcases h1 with ⟨rfl, a, rfl, b1, b4, b5⟩ | ⟨rfl, a, b0, b1, b2, b3, b4, b5, b6, b7⟩ <;> rcases h2 with ⟨rfl, a', c0, c1, c4⟩ | ⟨rfl, a', c0, c1, c2⟩
  · have q1 := a.1
    have q2 := a.2.1
    exact ⟨rfl, o1.toNat, st_sh hI ⟨rfl, by omega⟩ (by omega) (by omega) (by omega) b1 c1 (fun k hk => jp_b (hc k hk).2) a.2.2 b4 c4 b5⟩
  · exact absurd a a'
  · exact absurd a' a
  · exact ⟨rfl, o, st_same hI ⟨rfl, by omega⟩ b0 c0 b1 b2 b3 b4 b5 b6 c1 c2⟩
theorem st_out (hI : lwN o ps Li Lo fc gP gS gB gA gC gF fi xi fo xo fx) {L1 oL1 : Int} {f1 xo1 : Nat → Int} (h1 : oL1 = L1) (h2 : 0 ≤ L1 ∧ L1 ≤ 6000) (h3 : bI L1 f1 xo1) : lwI o (o : Int) (o : Int) ps ps Li Li L1 oL1 fc fc gP gP gS gS gB gA gC gF fi xi f1 xo1 fx := by
  obtain ⟨e0, ho, hr, hc, hp, ht, hi, hoo, hx, hs⟩ := hI
  exact ⟨⟨rfl, rfl, rfl, rfl, h1⟩, ho, by omega, hc, hp, ht, hi, h3, hx, hs⟩
theorem st_describe (hI : lwN o ps Li Lo fc gP gS gB gA gC gF fi xi fo xo fx) {z z2 L1 hd1 hn1 ov1 hdo hno ovo oL1 : Int} {f1 xo1 : Nat → Int} (h1 : (z = -1 ∧ o = 0 ∧ L1 = Lo ∧ hd1 = hdo ∧ hn1 = hno ∧ ov1 = ovo ∧ f1 = fo) ∨ (z = L1 ∧ 0 < o ∧ rI (dC gP o).1 (8 * (((dC gP o).2 + 7) / 8)) (((dC gP o).2 + 7) / 8) L1 hd1 hn1 ov1 f1)) (h2 : (z2 = -1 ∧ o = 0 ∧ oL1 = Lo ∧ xo1 = xo) ∨ (z2 = oL1 ∧ 0 < o ∧ oL1 = (((dC gP o).2 + 7) / 8 : Nat) ∧ mO (dC gP o).1 (dC gP o).2 xo1)) : z = z2 ∧ lwI o (o : Int) (o : Int) ps ps Li Li L1 oL1 fc fc gP gP gS gS gB gA gC gF fi xi f1 xo1 fx := by
  have hr := hI.2.2.1
  have hoo := hI.2.2.2.2.2.2.2.1
  rcases h1 with ⟨a, b, c, -, -, -, e⟩ | ⟨a, b, c⟩ <;> rcases h2 with ⟨a', b', c', e'⟩ | ⟨a', b', c', e'⟩
  · exact ⟨by omega, st_out hI (by omega) (by omega) (by rw [e, e', c]; exact hoo)⟩
  · omega
  · omega
  · have q := rI_mO c e'
    exact ⟨by omega, st_out hI (by omega) (by omega) q.2.2⟩
theorem st_read (hI : lwN o ps Li Lo fc gP gS gB gA gC gF fi xi fo xo fx) {z z2 x y o1 o2 ps1 go1 : Int} {gP1 gS1 gB1 gA1 gC1 gF1 gN1 xp1 xs1 : Nat → Int} (h1 : (z = -4 ∧ ¬ ((5 ≤ x ∧ x ≤ 12) ∧ 0 ≤ y ∧ y < 256) ∧ ps1 = ps ∧ o1 = (o : Int) ∧ gP1 = gP ∧ gS1 = gS ∧ gB1 = gB ∧ gA1 = gA ∧ gC1 = gC ∧ gF1 = gF ∧ gN1 = gN) ∨ (((5 ≤ x ∧ x ≤ 12) ∧ 0 ≤ y ∧ y < 256) ∧ rdQ (fun k => fi k % 256) (8 * ps.toNat) (8 * (Li - ps)) x y.toNat z ∧ ps1 = ps ∧ o1 = (o : Int) ∧ gP1 = gP ∧ gS1 = gS ∧ gB1 = gB ∧ gA1 = gA ∧ gC1 = gC ∧ gF1 = gF ∧ gN1 = gN) ∨ (((5 ≤ x ∧ x ≤ 12) ∧ 0 ≤ y ∧ y < 256) ∧ rdG (fun k => fi k % 256) (8 * ps.toNat) (8 * (Li - ps)) x y.toNat z ∧ ps1 = ps + (((rdT (fun k => fi k % 256) (8 * ps.toNat) (8 * (Li - ps)) y.toNat).2.1 : Int) + 7) / 8 ∧ ps1 ≤ Li ∧ o1 = z ∧ (∀ k, k < 256 → gP1 k = (rdT (fun k => fi k % 256) (8 * ps.toNat) (8 * (Li - ps)) y.toNat).2.2 k) ∧ gS1 = tbT gP1 z.toNat gS ∧ shOK gP1 gS1 gB1 gA1 gC1 gF1 z.toNat)) (h2 : (z2 = -4 ∧ ¬ ((5 ≤ x ∧ x ≤ 12) ∧ 0 ≤ y ∧ y < 256) ∧ go1 = ps ∧ o2 = (o : Int) ∧ xp1 = gP ∧ xs1 = gS) ∨ (((5 ≤ x ∧ x ≤ 12) ∧ 0 ≤ y ∧ y < 256) ∧ rdQ xi (8 * ps.toNat) (8 * (Li - ps)) x y.toNat z2 ∧ go1 = ps ∧ o2 = (o : Int) ∧ xp1 = gP ∧ xs1 = gS) ∨ (((5 ≤ x ∧ x ≤ 12) ∧ 0 ≤ y ∧ y < 256) ∧ rdG xi (8 * ps.toNat) (8 * (Li - ps)) x y.toNat z2 ∧ go1 = ps + (((rdT xi (8 * ps.toNat) (8 * (Li - ps)) y.toNat).2.1 : Int) + 7) / 8 ∧ o2 = z2 ∧ (∀ k, k < 256 → xp1 k = (rdT xi (8 * ps.toNat) (8 * (Li - ps)) y.toNat).2.2 k) ∧ xs1 = tbT xp1 z2.toNat gS)) : z = z2 ∧ ∃ n : Nat, lwI n o1 o2 ps1 go1 Li Li Lo Lo fc fc gP1 xp1 gS1 xs1 gB1 gA1 gC1 gF1 fi xi fo xo fx := by
  have hr := hI.2.2.1
  have hi := hI.2.2.2.2.2.2.1.1
  have hb : ∀ k, k < Li.toNat → (fun k => fi k % 256) k = xi k := fun k hk => hi k (by omega)
  have hA : (((8 * ps.toNat : Nat)) : Int) + 8 * (Li - ps) ≤ 8 * (Li.toNat : Int) := by omega
  have hqg : ∀ {w v : Int}, rdQ xi (8 * ps.toNat) (8 * (Li - ps)) x y.toNat w → rdG xi (8 * ps.toNat) (8 * (Li - ps)) x y.toNat v → False := fun {w v} p q => by
    have q1 := q.1
    have q2 := q.2.1
    have q3 := q.2.2.1
    rcases p with p | p | ⟨p1, p2, p3 | p3⟩
    · omega
    · omega
    · omega
    · omega
  rcases h1 with ⟨a, b, c, d, e⟩ | ⟨a, b, c, d, e⟩ | ⟨a, b, c, c1, d, e1, e2, e3⟩ <;> rcases h2 with ⟨a', b', c', d', e'⟩ | ⟨a', b', c', d', e'⟩ | ⟨a', b', c', d', e1', e2'⟩
  · exact ⟨by omega, o, st_same hI (by omega) d d' e.1 e.2.1 e.2.2.1 e.2.2.2.1 e.2.2.2.2.1 e.2.2.2.2.2.1 e'.1 e'.2⟩
  · exact absurd a' b
  · exact absurd a' b
  · exact absurd a b'
  · have b2 := rdQ_cg hb hA b
    refine ⟨?_, o, st_same hI (by omega) d d' e.1 e.2.1 e.2.2.1 e.2.2.2.1 e.2.2.2.2.1 e.2.2.2.2.2.1 e'.1 e'.2⟩
    rcases b2 with p | p | ⟨p1, p2, p3 | p3⟩ <;> rcases b' with q | q | ⟨q1, q2, q3 | q3⟩ <;> omega
  · exact (hqg (rdQ_cg hb hA b) b').elim
  · exact absurd a b'
  · exact (hqg b' (rdG_cg hb hA b)).elim
  · have b2 := rdG_cg hb hA b
    have w1 := b2.2.2.2
    have w2 := b'.2.2.2
    have hT := rdT_cg (y := y.toNat) hb hA b.1
    have hnb := nbI_b xi (8 * ps.toNat) 4
    have hx := b'.2.1
    have ok := rdT_ok (b := xi) (q0 := 8 * ps.toNat) (y := y.toNat) (A := 8 * (Li - ps)) (by omega) (by omega) b'.2.2.1
    have ez : z = z2 := by omega
    rw [hT] at c e1
    refine ⟨by omega, z.toNat, st_sh hI (by omega) (by omega) (by omega) (by omega) e1 e1' (fun k _ => ok.2 k) (by rw [ok.1, w1]) e2 (by rw [e2', ez]) e3⟩
theorem st_about (hI : lwN o ps Li Lo fc gP gS gB gA gC gF fi xi fo xo fx) {z z2 x : Int} (h1 : (o = 0 ∧ z = -1) ∨ (0 < o ∧ x = 0 ∧ z = (o : Int)) ∨ (0 < o ∧ x = 1 ∧ ∃ n : Nat, z = (n : Int) ∧ n ≤ 255 ∧ (n = 0 ∨ gP n ≠ 0) ∧ ∀ k, n < k → k ≤ 255 → gP k = 0) ∨ (0 < o ∧ x ≠ 0 ∧ x ≠ 1 ∧ z = -1)) (h2 : (o = 0 ∧ z2 = -1) ∨ (0 < o ∧ x = 0 ∧ z2 = (o : Int)) ∨ (0 < o ∧ x = 1 ∧ ((z2 = -1 ∧ ∀ k, k < 256 → gP k = 0) ∨ ∃ n : Nat, z2 = (n : Int) ∧ n ≤ 255 ∧ gP n ≠ 0 ∧ ∀ k, n < k → k ≤ 255 → gP k = 0)) ∨ (0 < o ∧ x ≠ 0 ∧ x ≠ 1 ∧ z2 = -1)) : z = z2 := by
  have hs := hI.2.2.2.2.2.2.2.2.2
  rcases h1 with h1 | h1 | ⟨p0, p1, n, p2, p3, p4, p5⟩ | h1 <;> rcases h2 with h2 | h2 | ⟨q0, q1, q⟩ | h2
  all_goals first
    | omega
    | (clear q; omega)
    | skip
  rcases q with ⟨q2, q3⟩ | ⟨m, q2, q3, q4, q5⟩
  · have e := (hs p0).2
    rw [cum_congr (g2 := fun _ => 0) q3, cum_0] at e
    have := p2_pos o
    omega
  · rcases (by omega : n < m ∨ m < n ∨ n = m) with r | r | r
    · exact absurd (p5 m r q3) q4
    · rcases p4 with w | w
      · omega
      · exact absurd (q5 n r p3) w
    · omega
theorem st_cell (hI : lwN o ps Li Lo fc gP gS gB gA gC gF fi xi fo xo fx) {k x : Int} : cellAns o gS gB gA k x = cellAns o gS (fun j => (o : Int) - (zlog (wgt (gP (gS j).toNat) + cntS gS (gS j) j) : Int)) (fun j => (wgt (gP (gS j).toNat) + cntS gS (gS j) j) * 2 ^ (o - zlog (wgt (gP (gS j).toNat) + cntS gS (gS j) j)) - 2 ^ o) k x := by
  have hs := hI.2.2.2.2.2.2.2.2.2
  unfold cellAns
  by_cases e : 0 < o ∧ 0 ≤ k ∧ k < 2 ^ o
  · have hn := (hs e.1).1.1 k.toNat (by have := p2n o; omega)
    rw [if_pos e, if_pos e, hn.1, hn.2.1]
    rfl
  · rw [if_neg e, if_neg e]
theorem st_byteAt (hI : lwN o ps Li Lo fc gP gS gB gA gC gF fi xi fo xo fx) {k : Int} : (if 0 ≤ k ∧ k < Lo then fo k.toNat % 256 else -1) = (if 0 ≤ k ∧ k < Lo then xo k.toNat else -1) := by
  have hoo := hI.2.2.2.2.2.2.2.1
  by_cases e : 0 ≤ k ∧ k < Lo
  · rw [if_pos e, if_pos e]; exact hoo.1 k.toNat (by omega)
  · rw [if_neg e, if_neg e]
theorem st_keep (hI : lwN o ps Li Lo fc gP gS gB gA gC gF fi xi fo xo fx) {oL1 : Int} {f1 xo1 : Nat → Int} (h1 : oL1 = Lo) (h2 : xo1 = xo) (h3 : ∀ k, -128 ≤ f1 k ∧ f1 k < 128) : lwI o (o : Int) (o : Int) ps ps Li Li Lo oL1 fc fc gP gP gS gS gB gA gC gF fi xi fo xo1 f1 := by
  subst h2
  obtain ⟨e0, ho, hr, hc, hp, ht, hi, hoo, hx, hs⟩ := hI
  exact ⟨⟨rfl, rfl, rfl, rfl, h1⟩, ho, hr, hc, hp, ht, hi, hoo, h3, hs⟩
theorem st_swap (hI : lwN o ps Li Lo fc gP gS gB gA gC gF fi xi fo xo fx) {L1 oL1 : Int} {f1 xo1 : Nat → Int} (h1 : oL1 = L1) (h2 : 0 ≤ L1 ∧ L1 ≤ 6000) (h3 : bI L1 f1 xo1) : lwI o (o : Int) (o : Int) ps ps Li Li L1 oL1 fc fc gP gP gS gS gB gA gC gF fi xi f1 xo1 fo := by
  obtain ⟨e0, ho, hr, hc, hp, ht, hi, hoo, hx, hs⟩ := hI
  exact ⟨⟨rfl, rfl, rfl, rfl, h1⟩, ho, by omega, hc, hp, ht, hi, h3, hoo.2.1, hs⟩
theorem st_encode (hI : lwN o ps Li Lo fc gP gS gB gA gC gF fi xi fo xo fx) {qo qx qo1 qx1 : Nat} {z z2 L1 hd1 hn1 ov1 oL1 : Int} {f1 xo1 : Nat → Int} (h1 : (z = -1 ∧ o = 0 ∧ (qo1 = qo ∧ qx1 = qx ∧ ∀ k, -128 ≤ f1 k ∧ f1 k < 128)) ∨ (z = -2 ∧ 0 < o ∧ ps = Li ∧ (qo1 = qo ∧ qx1 = qx ∧ ∀ k, -128 ≤ f1 k ∧ f1 k < 128)) ∨ (z = -3 ∧ 0 < o ∧ ps < Li ∧ (∃ k : Nat, ps ≤ (k : Int) ∧ (k : Int) < Li ∧ gP (fi k % 256).toNat = 0) ∧ (qo1 = qo ∧ qx1 = qx ∧ ∀ k, -128 ≤ f1 k ∧ f1 k < 128)) ∨ (z = -4 ∧ 0 < o ∧ ps < Li ∧ (∀ k : Nat, ps ≤ (k : Int) → (k : Int) < Li → gP (fi k % 256).toNat ≠ 0) ∧ 48000 < (ecB gP gS o (fun k => fi k % 256) (Li - 1).toNat (Li - 1 - ps).toNat) ∧ (qo1 = qo ∧ qx1 = qx ∧ ∀ k, -128 ≤ f1 k ∧ f1 k < 128)) ∨ (z = L1 ∧ 0 < o ∧ ps < Li ∧ (∀ k : Nat, ps ≤ (k : Int) → (k : Int) < Li → gP (fi k % 256).toNat ≠ 0) ∧ (ecB gP gS o (fun k => fi k % 256) (Li - 1).toNat (Li - 1 - ps).toNat) ≤ 48000 ∧ (qo1 = qx ∧ qx1 = qo) ∧ rI (ecV gP gS o (fun k => fi k % 256) (Li - 1).toNat (Li - 1 - ps).toNat) (8 * (((ecB gP gS o (fun k => fi k % 256) (Li - 1).toNat (Li - 1 - ps).toNat) + 7) / 8)) (((ecB gP gS o (fun k => fi k % 256) (Li - 1).toNat (Li - 1 - ps).toNat) + 7) / 8) L1 hd1 hn1 ov1 f1))
    (h2 : (z2 = -1 ∧ o = 0 ∧ oL1 = Lo ∧ xo1 = xo) ∨ (z2 = -2 ∧ 0 < o ∧ ps = Li ∧ oL1 = Lo ∧ xo1 = xo) ∨ (z2 = -3 ∧ 0 < o ∧ ps < Li ∧ (∃ k : Nat, ps ≤ (k : Int) ∧ (k : Int) < Li ∧ gP (xi k).toNat = 0) ∧ oL1 = Lo ∧ xo1 = xo) ∨ (z2 = -4 ∧ 0 < o ∧ ps < Li ∧ (∀ k : Nat, ps ≤ (k : Int) → (k : Int) < Li → gP (xi k).toNat ≠ 0) ∧ 48000 < (ecB gP gS o xi (Li - 1).toNat (Li - 1 - ps).toNat) ∧ oL1 = Lo ∧ xo1 = xo) ∨ (z2 = oL1 ∧ 0 < o ∧ ps < Li ∧ (∀ k : Nat, ps ≤ (k : Int) → (k : Int) < Li → gP (xi k).toNat ≠ 0) ∧ (ecB gP gS o xi (Li - 1).toNat (Li - 1 - ps).toNat) ≤ 48000 ∧ oL1 = (((ecB gP gS o xi (Li - 1).toNat (Li - 1 - ps).toNat) + 7) / 8 : Nat) ∧ mO (ecV gP gS o xi (Li - 1).toNat (Li - 1 - ps).toNat) (ecB gP gS o xi (Li - 1).toNat (Li - 1 - ps).toNat) xo1)) : z = z2 ∧ ((qo1 = qo ∧ qx1 = qx ∧ lwI o (o : Int) (o : Int) ps ps Li Li Lo oL1 fc fc gP gP gS gS gB gA gC gF fi xi fo xo1 f1) ∨ (qo1 = qx ∧ qx1 = qo ∧ lwI o (o : Int) (o : Int) ps ps Li Li L1 oL1 fc fc gP gP gS gS gB gA gC gF fi xi f1 xo1 fo)) := by
  have hr := hI.2.2.1
  have hi := hI.2.2.2.2.2.2.1.1
  have hS : ps < Li → ecS gP gS o (fun k => fi k % 256) (Li - 1).toNat (Li - 1 - ps).toNat = ecS gP gS o xi (Li - 1).toNat (Li - 1 - ps).toNat := fun q => ecS_cg (fun k hk => hi k (by omega))
  have hB : ps < Li → (ecB gP gS o (fun k => fi k % 256) (Li - 1).toNat (Li - 1 - ps).toNat) = (ecB gP gS o xi (Li - 1).toNat (Li - 1 - ps).toNat) := fun q => by unfold ecB; rw [hS q]
  have hV : ps < Li → (ecV gP gS o (fun k => fi k % 256) (Li - 1).toNat (Li - 1 - ps).toNat) = (ecV gP gS o xi (Li - 1).toNat (Li - 1 - ps).toNat) := fun q => by unfold ecV; rw [hS q]
  have hna : (∃ k : Nat, ps ≤ (k : Int) ∧ (k : Int) < Li ∧ gP (fi k % 256).toNat = 0) → (∀ k : Nat, ps ≤ (k : Int) → (k : Int) < Li → gP (xi k).toNat ≠ 0) → False := fun ⟨k, k1, k2, k3⟩ q => q k k1 k2 (by rw [← hi k k2]; exact k3)
  have han : (∀ k : Nat, ps ≤ (k : Int) → (k : Int) < Li → gP (fi k % 256).toNat ≠ 0) → (∃ k : Nat, ps ≤ (k : Int) ∧ (k : Int) < Li ∧ gP (xi k).toNat = 0) → False := fun q ⟨k, k1, k2, k3⟩ => q k k1 k2 (by rw [hi k k2]; exact k3)
  rcases h1 with ⟨a, b, k1, k2, k3⟩ | ⟨a, b, c, k1, k2, k3⟩ | ⟨a, b, c, d, k1, k2, k3⟩ | ⟨a, b, c, d, e, k1, k2, k3⟩ | ⟨a, b, c, d, e, g, r⟩ <;> rcases h2 with ⟨a', b', m1, m2⟩ | ⟨a', b', c', m1, m2⟩ | ⟨a', b', c', d', m1, m2⟩ | ⟨a', b', c', d', e', m1, m2⟩ | ⟨a', b', c', d', e', g', r'⟩
  all_goals first
    | exact ⟨a.trans a'.symm, Or.inl ⟨k1, k2, st_keep hI m1 m2 k3⟩⟩
    | exact (hna d d').elim
    | exact (han d d').elim
    | (exfalso; clear d d'; omega)
    | (exfalso; clear d; omega)
    | (exfalso; clear d'; omega)
    | (exfalso; omega)
    | (exfalso; have q := hB c; omega)
    | skip
  rw [hB c, hV c] at r
  have q := rI_mO r r'
  exact ⟨by omega, Or.inr ⟨g.1, g.2, st_swap hI (by omega) (by omega) q.2.2⟩⟩
theorem st_decode (hI : lwN o ps Li Lo fc gP gS gB gA gC gF fi xi fo xo fx) {qo qx qo1 qx1 : Nat} {z z2 x L1 oL1 : Int} {f1 xo1 : Nat → Int} (h1 : (z = -1 ∧ (o = 0 ∨ x < 1 ∨ 6000 < x) ∧ (qo1 = qo ∧ qx1 = qx ∧ ∀ k, -128 ≤ f1 k ∧ f1 k < 128)) ∨ (z = -2 ∧ (0 < o ∧ 1 ≤ x ∧ x ≤ 6000) ∧ (ps = Li ∨ (ps < Li ∧ (fi (Li - 1).toNat % 256) = 0)) ∧ (qo1 = qo ∧ qx1 = qx ∧ ∀ k, -128 ≤ f1 k ∧ f1 k < 128)) ∨ (z = -3 ∧ (0 < o ∧ 1 ≤ x ∧ x ≤ 6000 ∧ ps < Li ∧ (fi (Li - 1).toNat % 256) ≠ 0) ∧ (dcS gP gS o (fun k => fi k % 256) (8 * ps.toNat) (8 * (Li - 1 - ps) + (zlog (fi (Li - 1).toNat % 256) : Int) - (o : Int)) (x.toNat - 1)).1 < 0 ∧ (qo1 = qo ∧ qx1 = qx ∧ ∀ k, -128 ≤ f1 k ∧ f1 k < 128)) ∨ (z = -4 ∧ (0 < o ∧ 1 ≤ x ∧ x ≤ 6000 ∧ ps < Li ∧ (fi (Li - 1).toNat % 256) ≠ 0) ∧ 0 < (dcS gP gS o (fun k => fi k % 256) (8 * ps.toNat) (8 * (Li - 1 - ps) + (zlog (fi (Li - 1).toNat % 256) : Int) - (o : Int)) (x.toNat - 1)).1 ∧ (qo1 = qo ∧ qx1 = qx ∧ ∀ k, -128 ≤ f1 k ∧ f1 k < 128)) ∨ (z = x ∧ (0 < o ∧ 1 ≤ x ∧ x ≤ 6000 ∧ ps < Li ∧ (fi (Li - 1).toNat % 256) ≠ 0) ∧ (dcS gP gS o (fun k => fi k % 256) (8 * ps.toNat) (8 * (Li - 1 - ps) + (zlog (fi (Li - 1).toNat % 256) : Int) - (o : Int)) (x.toNat - 1)).1 = 0 ∧ L1 = x ∧ (qo1 = qx ∧ qx1 = qo) ∧ (∀ i : Nat, i < x.toNat → f1 i % 256 = gS (dcS gP gS o (fun k => fi k % 256) (8 * ps.toNat) (8 * (Li - 1 - ps) + (zlog (fi (Li - 1).toNat % 256) : Int) - (o : Int)) i).2) ∧ ∀ k, -128 ≤ f1 k ∧ f1 k < 128))
    (h2 : (z2 = -1 ∧ (o = 0 ∨ x < 1 ∨ 6000 < x) ∧ (oL1 = Lo ∧ xo1 = xo)) ∨ (z2 = -2 ∧ (0 < o ∧ 1 ≤ x ∧ x ≤ 6000) ∧ (ps = Li ∨ (ps < Li ∧ (xi (Li - 1).toNat) = 0)) ∧ (oL1 = Lo ∧ xo1 = xo)) ∨ (z2 = -3 ∧ (0 < o ∧ 1 ≤ x ∧ x ≤ 6000 ∧ ps < Li ∧ (xi (Li - 1).toNat) ≠ 0) ∧ (dcS gP gS o xi (8 * ps.toNat) (8 * (Li - 1 - ps) + (zlog (xi (Li - 1).toNat) : Int) - (o : Int)) (x.toNat - 1)).1 < 0 ∧ (oL1 = Lo ∧ xo1 = xo)) ∨ (z2 = -4 ∧ (0 < o ∧ 1 ≤ x ∧ x ≤ 6000 ∧ ps < Li ∧ (xi (Li - 1).toNat) ≠ 0) ∧ 0 < (dcS gP gS o xi (8 * ps.toNat) (8 * (Li - 1 - ps) + (zlog (xi (Li - 1).toNat) : Int) - (o : Int)) (x.toNat - 1)).1 ∧ (oL1 = Lo ∧ xo1 = xo)) ∨ (z2 = x ∧ (0 < o ∧ 1 ≤ x ∧ x ≤ 6000 ∧ ps < Li ∧ (xi (Li - 1).toNat) ≠ 0) ∧ (dcS gP gS o xi (8 * ps.toNat) (8 * (Li - 1 - ps) + (zlog (xi (Li - 1).toNat) : Int) - (o : Int)) (x.toNat - 1)).1 = 0 ∧ oL1 = x ∧ (∀ i : Nat, i < x.toNat → xo1 i = gS (dcS gP gS o xi (8 * ps.toNat) (8 * (Li - 1 - ps) + (zlog (xi (Li - 1).toNat) : Int) - (o : Int)) i).2) ∧ ∀ k, k < 6000 → 0 ≤ xo1 k ∧ xo1 k < 256)) : z = z2 ∧ ((qo1 = qo ∧ qx1 = qx ∧ lwI o (o : Int) (o : Int) ps ps Li Li Lo oL1 fc fc gP gP gS gS gB gA gC gF fi xi fo xo1 f1) ∨ (qo1 = qx ∧ qx1 = qo ∧ lwI o (o : Int) (o : Int) ps ps Li Li L1 oL1 fc fc gP gP gS gS gB gA gC gF fi xi f1 xo1 fo)) := by
  have hr := hI.2.2.1
  have hi := hI.2.2.2.2.2.2.1.1
  have hxi := hI.2.2.2.2.2.2.1.2.2
  have hL : ps < Li → (fi (Li - 1).toNat % 256) = (xi (Li - 1).toNat) := fun q => hi (Li - 1).toNat (by omega)
  have hD : ps < Li → (xi (Li - 1).toNat) ≠ 0 → ((dcS gP gS o (fun k => fi k % 256) (8 * ps.toNat) (8 * (Li - 1 - ps) + (zlog (fi (Li - 1).toNat % 256) : Int) - (o : Int)) (x.toNat - 1)).1 < 0 ∧ (dcS gP gS o xi (8 * ps.toNat) (8 * (Li - 1 - ps) + (zlog (xi (Li - 1).toNat) : Int) - (o : Int)) (x.toNat - 1)).1 < 0) ∨ ∀ j, (dcS gP gS o (fun k => fi k % 256) (8 * ps.toNat) (8 * (Li - 1 - ps) + (zlog (fi (Li - 1).toNat % 256) : Int) - (o : Int)) j) = (dcS gP gS o xi (8 * ps.toNat) (8 * (Li - 1 - ps) + (zlog (xi (Li - 1).toNat) : Int) - (o : Int)) j) := fun q q0 => by
    rw [hL q]
    have w := hxi (Li - 1).toNat (by omega)
    have z8 := zlog8 (y := (xi (Li - 1).toNat)) (by omega)
    by_cases u : (8 * (Li - 1 - ps) + (zlog (xi (Li - 1).toNat) : Int) - (o : Int)) < 0
    · have m1 := dc_mono (gP := gP) (gS := gS) (o := o) (b := (fun k => fi k % 256)) (q0 := 8 * ps.toNat) (u0 := (8 * (Li - 1 - ps) + (zlog (xi (Li - 1).toNat) : Int) - (o : Int))) (Nat.zero_le (x.toNat - 1))
      have m2 := dc_mono (gP := gP) (gS := gS) (o := o) (b := xi) (q0 := 8 * ps.toNat) (u0 := (8 * (Li - 1 - ps) + (zlog (xi (Li - 1).toNat) : Int) - (o : Int))) (Nat.zero_le (x.toNat - 1))
      have m1 : (dcS gP gS o (fun k => fi k % 256) (8 * ps.toNat) (8 * (Li - 1 - ps) + (zlog (xi (Li - 1).toNat) : Int) - (o : Int)) (x.toNat - 1)).1 ≤ (8 * (Li - 1 - ps) + (zlog (xi (Li - 1).toNat) : Int) - (o : Int)) := m1
      have m2 : (dcS gP gS o xi (8 * ps.toNat) (8 * (Li - 1 - ps) + (zlog (xi (Li - 1).toNat) : Int) - (o : Int)) (x.toNat - 1)).1 ≤ (8 * (Li - 1 - ps) + (zlog (xi (Li - 1).toNat) : Int) - (o : Int)) := m2
      exact Or.inl ⟨by omega, by omega⟩
    · exact Or.inr (fun j => dcS_cg (N := Li.toNat) (fun k hk => hi k (by omega)) (by omega) (by omega))
  rcases h1 with ⟨a, b, k1, k2, k3⟩ | ⟨a, b, c, k1, k2, k3⟩ | ⟨a, b, c, k1, k2, k3⟩ | ⟨a, b, c, k1, k2, k3⟩ | ⟨a, b, c, d, g, r, k3⟩ <;> rcases h2 with ⟨a', b', m1, m2⟩ | ⟨a', b', c', m1, m2⟩ | ⟨a', b', c', m1, m2⟩ | ⟨a', b', c', m1, m2⟩ | ⟨a', b', c', m1, r', m2⟩
  all_goals first
    | exact ⟨a.trans a'.symm, Or.inl ⟨k1, k2, st_keep hI m1 m2 k3⟩⟩
    | (exfalso; omega)
    | (exfalso; have q := hL b.2.2.2.1; omega)
    | (exfalso; have q := hL b'.2.2.2.1; omega)
    | (exfalso; rcases hD b.2.2.2.1 b'.2.2.2.2 with q | q; omega; rw [q] at c; omega)
    | skip
  rcases hD b.2.2.2.1 b'.2.2.2.2 with q | q
  · omega
  · refine ⟨by omega, Or.inr ⟨g.1, g.2, st_swap hI (by omega) (by omega) ⟨fun k hk => ?_, k3, m2⟩⟩⟩
    rw [r k (by omega), r' k (by omega), q k]
end LWST
