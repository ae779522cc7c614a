/-! the rule by which counts make points: who comes before whom -/
theorem sm_le {f g : Nat → Int} : ∀ {n : Nat}, (∀ k, k < n → f k ≤ g k) → sm f n ≤ sm g n
  | 0, _ => Int.le_refl _
  | n + 1, h => by
    have a := sm_le (f := f) (g := g) (n := n) (fun k hk => h k (by omega))
    have b := h n (by omega)
    show sm f n + f n ≤ sm g n + g n
    omega
theorem sm_nn {f : Nat → Int} {n : Nat} (h : ∀ k, k < n → 0 ≤ f k) : 0 ≤ sm f n := by
  have a := sm_le (f := fun _ => 0) (g := f) (n := n) h
  rw [sm_zero (fun _ _ => rfl)] at a
  exact a
theorem sm_ge {f : Nat → Int} {a : Nat} : ∀ {n : Nat}, (∀ k, k < n → 0 ≤ f k) → a < n → f a ≤ sm f n
  | 0, _, h => absurd h (by omega)
  | n + 1, h0, h => by
    show f a ≤ sm f n + f n
    have p := sm_nn (f := f) (n := n) (fun k hk => h0 k (by omega))
    have q := h0 n (by omega)
    by_cases e : a = n
    · rw [e]; omega
    · have := sm_ge (f := f) (a := a) (n := n) (fun k hk => h0 k (by omega)) (by omega)
      omega
abbrev bfr (ct : Nat → Int) (u t : Nat) : Prop := ct t < ct u ∨ (ct u = ct t ∧ u < t)
def befN (g ct : Nat → Int) (t n : Nat) : Int := sm (fun u => if 0 < g u ∧ bfr ct u t then 1 else 0) n
def numR (g : Nat → Int) (n : Nat) : Int := sm (fun u => if 0 < g u then 1 else 0) n
theorem ind_nn {p : Prop} [Decidable p] : (0 : Int) ≤ (if p then 1 else 0) ∧ (if p then (1 : Int) else 0) ≤ 1 := by split <;> omega
theorem bef_nn {g ct : Nat → Int} {t n : Nat} : 0 ≤ befN g ct t n := sm_nn (fun _ _ => ind_nn.1)
theorem bef_s {g ct : Nat → Int} {t n : Nat} : befN g ct t (n + 1) = befN g ct t n + (if 0 < g n ∧ bfr ct n t then 1 else 0) := rfl
theorem num_s {g : Nat → Int} {n : Nat} : numR g (n + 1) = numR g n + (if 0 < g n then 1 else 0) := rfl
theorem bef_lt {g ct : Nat → Int} {u t n : Nat} (hg : 0 < g u) (hu : u < n) (h : bfr ct u t) : befN g ct u n < befN g ct t n := by
  have a := sm_le (n := n) (f := fun v => (if 0 < g v ∧ bfr ct v u then 1 else 0) + (if v = u then (fun _ => 1) v else 0)) (g := fun v => if 0 < g v ∧ bfr ct v t then 1 else 0) (fun v _ => by
    show (if 0 < g v ∧ bfr ct v u then (1 : Int) else 0) + (if v = u then 1 else 0) ≤ (if 0 < g v ∧ bfr ct v t then 1 else 0)
    by_cases e : v = u
    · subst e
      rw [if_neg (fun q => by have := q.2; omega), if_pos rfl, if_pos ⟨hg, h⟩]
      omega
    · rw [if_neg e]
      by_cases q : 0 < g v ∧ bfr ct v u
      · have q2 := q.2
        rw [if_pos q, if_pos ⟨q.1, by omega⟩]
        omega
      · rw [if_neg q]
        have := (ind_nn (p := 0 < g v ∧ bfr ct v t)).1
        omega)
  rw [sm_add, sm_one (f := fun _ => 1) hu] at a
  unfold befN
  omega
theorem bef_le {g ct : Nat → Int} {u t n : Nat} (h : bfr ct u t) : befN g ct u n ≤ befN g ct t n := by
  refine sm_le (fun v _ => ?_)
  by_cases q : 0 < g v ∧ bfr ct v u
  · have q2 := q.2
    rw [if_pos q, if_pos ⟨q.1, by omega⟩]
    omega
  · rw [if_neg q]
    exact (ind_nn (p := 0 < g v ∧ bfr ct v t)).1
theorem bef_num {g ct : Nat → Int} {t n : Nat} : befN g ct t n ≤ numR g n := by
  refine sm_le (fun v _ => ?_)
  by_cases q : 0 < g v
  · rw [if_pos q]; exact ind_nn.2
  · rw [if_neg q, if_neg (fun h => q h.1)]
    omega
theorem bef_inj {g ct : Nat → Int} {u t n : Nat} (hu : 0 < g u) (ht : 0 < g t) (h1 : u < n) (h2 : t < n) (h : befN g ct u n = befN g ct t n) : u = t := by
  by_cases e : u = t
  · exact e
  · rcases (by omega : bfr ct u t ∨ bfr ct t u) with q | q
    · have := bef_lt hu h1 q; omega
    · have := bef_lt ht h2 q; omega
theorem bef_cg {g g2 ct ct2 : Nat → Int} {t n : Nat} (h1 : ∀ k, k < n → g k = g2 k) (h2 : ∀ k, k < n → 0 < g2 k → ct k = ct2 k) (ht : t < n) (hg : 0 < g2 t) : befN g ct t n = befN g2 ct2 t n := by
  refine sm_congr (fun v hv => ?_)
  rw [h1 v hv]
  by_cases q : 0 < g2 v
  · have e1 := h2 v hv q
    have e2 := h2 t ht hg
    by_cases w : bfr ct v t
    · rw [if_pos ⟨q, w⟩, if_pos ⟨q, by omega⟩]
    · rw [if_neg (fun h => w h.2), if_neg (fun h => w (by have := h.2; omega))]
  · rw [if_neg (fun h => q h.1), if_neg (fun h => q h.1)]
theorem num_cg {g g2 : Nat → Int} {n : Nat} (h1 : ∀ k, k < n → g k = g2 k) : numR g n = numR g2 n := sm_congr (fun v hv => by rw [h1 v hv])
/-- the ranking of the symbols below s -/
def rkI (g ct : Nat → Int) (s : Nat) (len : Int) (rk : Nat → Int) : Prop := len = numR g s ∧ ∀ p : Nat, (p : Int) < len → ∃ t : Nat, rk p = (t : Int) ∧ t < s ∧ 0 < g t ∧ befN g ct t s = p
theorem rk_0 {g ct rk : Nat → Int} : rkI g ct 0 0 rk := ⟨rfl, fun p h => absurd h (by omega)⟩
theorem rk_n {g ct rk : Nat → Int} {s : Nat} {len : Int} (h : rkI g ct s len rk) (hs : g s ≤ 0) : rkI g ct (s + 1) len rk := by
  refine ⟨?_, fun p hp => ?_⟩
  · rw [num_s, if_neg (by omega), h.1]; omega
  · obtain ⟨t, h1, h2, h3, h4⟩ := h.2 p hp
    refine ⟨t, h1, by omega, h3, ?_⟩
    rw [bef_s, if_neg (fun q => by have := q.1; omega)]
    omega
theorem num_b {g : Nat → Int} : ∀ {n : Nat}, 0 ≤ numR g n ∧ numR g n ≤ n
  | 0 => ⟨Int.le_refl _, Int.le_refl _⟩
  | n + 1 => by
    have := num_b (g := g) (n := n)
    have := ind_nn (p := 0 < g n)
    rw [num_s]
    omega
def inI (ct rk0 rk2 : Nat → Int) (s i : Nat) (len : Int) : Prop := (i : Int) ≤ len ∧ (∀ p : Nat, p < i → rk2 p = rk0 p) ∧ ∀ p : Nat, i ≤ p → (p : Int) < len → rk2 (p + 1) = rk0 p ∧ ct (rk0 p).toNat < ct s
theorem in_0 {ct rk : Nat → Int} {s i : Nat} {len : Int} (h : (i : Int) = len) : inI ct rk rk s i len := ⟨by omega, fun _ _ => rfl, fun p h1 h2 => absurd h1 (by omega)⟩
theorem in_s {ct rk0 rk2 : Nat → Int} {s i : Nat} {len : Int} (h : inI ct rk0 rk2 s i len) (hi : 0 < i) (hc : ct (rk2 (i - 1)).toNat < ct s) : inI ct rk0 (zu rk2 i (rk2 (i - 1))) s (i - 1) len := by
  obtain ⟨a, b, c⟩ := h
  have e := b (i - 1) (by omega)
  refine ⟨by omega, fun p hp => ?_, fun p h1 h2 => ?_⟩
  · rw [zu_n (by omega)]; exact b p (by omega)
  · by_cases q : p = i - 1
    · subst q
      rw [show i - 1 + 1 = i by omega, zu_s, ← e]
      exact ⟨rfl, hc⟩
    · rw [zu_n (by omega)]
      exact c p (by omega) h2
theorem rk_s {g ct rk0 rk2 : Nat → Int} {s i : Nat} {len : Int} (h : rkI g ct s len rk0) (hi : inI ct rk0 rk2 s i len) (hs : 0 < g s) (he : i = 0 ∨ ct s ≤ ct (rk2 (i - 1)).toNat) : rkI g ct (s + 1) (len + 1) (zu rk2 i (s : Int)) := by
  obtain ⟨hl, hr⟩ := h
  obtain ⟨a, b, c⟩ := hi
  refine ⟨by rw [num_s, if_pos hs]; omega, fun p hp => ?_⟩
  rcases (by omega : p < i ∨ p = i ∨ i < p) with q | q | q
  · obtain ⟨t, t1, t2, t3, t4⟩ := hr p (by omega)
    refine ⟨t, by rw [zu_n (by omega), b p q]; exact t1, by omega, t3, ?_⟩
    rw [bef_s, if_neg, t4]
    · omega
    · intro w
      have w2 := w.2
      rcases he with e | e
      · omega
      · obtain ⟨d, d1, d2, d3, d4⟩ := hr (i - 1) (by omega)
        rw [b (i - 1) (by omega), d1, show ((d : Int)).toNat = d from rfl] at e
        rcases (by omega : bfr ct d t ∨ ct d ≤ ct t) with v | v
        · have := bef_lt d3 d2 v; omega
        · omega
  · subst q
    refine ⟨s, zu_s, by omega, hs, ?_⟩
    rw [bef_s, if_neg (fun w => by have := w.2; omega)]
    have lo : (p : Int) ≤ befN g ct s s := by
      rcases (by omega : p = 0 ∨ 0 < p) with e0 | e0
      · rw [e0]; exact bef_nn
      · rcases he with e | e
        · omega
        · obtain ⟨d, d1, d2, d3, d4⟩ := hr (p - 1) (by omega)
          rw [b (p - 1) (by omega), d1, show ((d : Int)).toNat = d from rfl] at e
          have := bef_lt (t := s) d3 d2 (show bfr ct d s by omega)
          omega
    have hi : befN g ct s s ≤ (p : Int) := by
      rcases (by omega : (p : Int) = len ∨ (p : Int) < len) with e0 | e0
      · rw [e0, hl]; exact bef_num
      · obtain ⟨d, d1, d2, d3, d4⟩ := hr p e0
        have c1 := (c p (Nat.le_refl _) e0).2
        rw [d1, show ((d : Int)).toNat = d from rfl] at c1
        have := bef_le (g := g) (n := s) (show bfr ct s d by omega)
        omega
    omega
  · obtain ⟨t, t1, t2, t3, t4⟩ := hr (p - 1) (by omega)
    have c1 := c (p - 1) (by omega) (by omega)
    rw [show p - 1 + 1 = p by omega] at c1
    have c2 := c1.2
    rw [t1, show ((t : Int)).toNat = t from rfl] at c2
    refine ⟨t, by rw [zu_n (by omega), c1.1]; exact t1, by omega, t3, ?_⟩
    rw [bef_s, if_pos ⟨hs, by omega⟩, t4]
    omega
/-- points given to those that come first -/
def gv (g ct : Nat → Int) (m : Int) (s : Nat) : Int := g s + (if 0 < g s ∧ befN g ct s 256 < m then 1 else 0)
theorem gv_0 {g ct : Nat → Int} {m : Int} {s : Nat} (h : m ≤ 0) : gv g ct m s = g s := by
  have := bef_nn (g := g) (ct := ct) (t := s) (n := 256)
  unfold gv
  rw [if_neg (fun q => by have := q.2; omega)]
  omega
theorem gv_s {g ct d : Nat → Int} {b k : Nat} (hb : b < 256) (hg : 0 < g b) (hk : befN g ct b 256 = k) (h : ∀ s, s < 256 → d s = gv g ct (k : Int) s) : ∀ s, s < 256 → zu d b (d b + 1) s = gv g ct ((k + 1 : Nat) : Int) s := by
  intro s hs
  by_cases e : s = b
  · subst e
    rw [zu_s, h s hs]
    unfold gv
    rw [if_neg (fun q => by have := q.2; omega), if_pos ⟨hg, by omega⟩]
    omega
  · rw [zu_n e, h s hs]
    unfold gv
    by_cases q : 0 < g s
    · have := bef_inj (ct := ct) q hg hs hb
      by_cases w : befN g ct s 256 < k
      · rw [if_pos ⟨q, w⟩, if_pos ⟨q, by omega⟩]
      · rw [if_neg (fun v => w v.2), if_neg (fun v => by have v2 := v.2; exact e (this (by omega)))]
    · rw [if_neg (fun v => q v.1), if_neg (fun v => q v.1)]
theorem gv_cg {g g2 ct ct2 : Nat → Int} {m : Int} (h1 : ∀ k, k < 256 → g k = g2 k) (h2 : ∀ k, k < 256 → 0 < g2 k → ct k = ct2 k) : ∀ s, s < 256 → gv g ct m s = gv g2 ct2 m s := by
  intro s hs
  unfold gv
  rw [h1 s hs]
  by_cases q : 0 < g2 s
  · rw [bef_cg h1 h2 hs q]
  · rw [if_neg (fun v => q v.1), if_neg (fun v => q v.1)]
theorem cum_upd {d : Nat → Int} {b : Nat} {x : Int} : ∀ {n : Nat}, (n ≤ b → cum (zu d b x) n = cum d n) ∧ (b < n → cum (zu d b x) n = cum d n - wgt (d b) + wgt x)
  | 0 => ⟨fun _ => rfl, fun h => absurd h (by omega)⟩
  | n + 1 => by
    have ih := cum_upd (d := d) (b := b) (x := x) (n := n)
    constructor
    · intro h
      show cum (zu d b x) n + wgt (zu d b x n) = cum d n + wgt (d n)
      rw [ih.1 (by omega), zu_n (by omega)]
    · intro h
      show cum (zu d b x) n + wgt (zu d b x n) = cum d n + wgt (d n) - wgt (d b) + wgt x
      by_cases e : n = b
      · rw [ih.1 (by omega), e, zu_s]; omega
      · rw [ih.2 (by omega), zu_n e]; omega
theorem wgt_pp {x : Int} (h : 0 ≤ x) : wgt x = x := by unfold wgt; rw [if_neg (by omega)]
theorem cum_inc {d : Nat → Int} {b : Nat} (hb : b < 256) (h : 1 ≤ d b) : cum (zu d b (d b + 1)) 256 = cum d 256 + 1 := by
  rw [(cum_upd (n := 256)).2 hb, wgt_pp (x := d b) (by omega), wgt_pp (by omega)]
  omega
theorem gv_pos {g ct : Nat → Int} {m : Int} {s : Nat} (h : 0 < g s) : 1 ≤ gv g ct m s ∧ gv g ct m s ≤ g s + 1 := by
  have := ind_nn (p := 0 < g s ∧ befN g ct s 256 < m)
  unfold gv
  omega
theorem gv_np {g ct : Nat → Int} {m : Int} {s : Nat} (h : ¬ 0 < g s) : gv g ct m s = g s := by
  unfold gv
  rw [if_neg (fun q => h q.1)]
  omega
/-- those that come first, by picking the next again and again -/
def cnk (g ct : Nat → Int) (k : Int) : Int := sm (fun u => if 0 < g u ∧ befN g ct u 256 < k then 1 else 0) 256
theorem cnk_0 {g ct : Nat → Int} : cnk g ct 0 = 0 := sm_zero (fun u _ => if_neg (fun q => by have := q.2; have := bef_nn (g := g) (ct := ct) (t := u) (n := 256); omega))
theorem pk_ex {g ct : Nat → Int} {k : Int} (hc : cnk g ct k = k) (hk : k < numR g 256) (h : ∀ u : Nat, u < 256 → 0 < g u → befN g ct u 256 < k) : False := by
  have e : cnk g ct k = numR g 256 := sm_congr (fun u hu => by
    by_cases q : 0 < g u
    · rw [if_pos q, if_pos ⟨q, h u hu q⟩]
    · rw [if_neg q, if_neg (fun v => q v.1)])
  omega
theorem pk_b {g ct : Nat → Int} {k : Int} {b : Nat} (hc : cnk g ct k = k) (hb : b < 256) (hg : 0 < g b) (hk : k ≤ befN g ct b 256) (hm : ∀ u : Nat, u < 256 → 0 < g u → k ≤ befN g ct u 256 → u = b ∨ bfr ct b u) : befN g ct b 256 = k := by
  have e : befN g ct b 256 = cnk g ct k := sm_congr (fun u hu => by
    by_cases q : 0 < g u
    · by_cases w : bfr ct u b
      · have y : befN g ct u 256 < k := by
          rcases (by omega : befN g ct u 256 < k ∨ k ≤ befN g ct u 256) with v | v
          · exact v
          · rcases hm u hu q v with x | x
            · subst x; omega
            · omega
        rw [if_pos ⟨q, w⟩, if_pos ⟨q, y⟩]
      · rw [if_neg (fun v => w v.2), if_neg]
        intro v
        have v2 := v.2
        by_cases y : u = b
        · subst y; omega
        · have := bef_lt (t := u) hg hb (show bfr ct b u by omega)
          omega
    · rw [if_neg (fun v => q v.1), if_neg (fun v => q v.1)])
  rw [e, hc]
theorem pk_c {g ct : Nat → Int} {k b : Nat} (hc : cnk g ct (k : Int) = k) (hb : b < 256) (hg : 0 < g b) (hk : befN g ct b 256 = k) : cnk g ct ((k + 1 : Nat) : Int) = ((k + 1 : Nat) : Int) := by
  have e : cnk g ct ((k + 1 : Nat) : Int) = sm (fun u => (if 0 < g u ∧ befN g ct u 256 < (k : Int) then 1 else 0) + (if u = b then (fun _ => 1) u else 0)) 256 := sm_congr (fun u hu => by
    show (if 0 < g u ∧ befN g ct u 256 < ((k + 1 : Nat) : Int) then (1 : Int) else 0) = (if 0 < g u ∧ befN g ct u 256 < (k : Int) then 1 else 0) + (if u = b then 1 else 0)
    by_cases e : u = b
    · subst e
      rw [if_pos ⟨hg, by omega⟩, if_neg (fun q => by have := q.2; omega), if_pos rfl]
      rfl
    · rw [if_neg e]
      by_cases q : 0 < g u
      · have := bef_inj (ct := ct) q hg hu hb
        by_cases w : befN g ct u 256 < k
        · rw [if_pos ⟨q, by omega⟩, if_pos ⟨q, w⟩]; rfl
        · rw [if_neg (fun v => by have v2 := v.2; exact e (this (by omega))), if_neg (fun v => w v.2)]; rfl
      · rw [if_neg (fun v => q v.1), if_neg (fun v => q v.1)]; rfl)
  have hc2 : sm (fun u => if 0 < g u ∧ befN g ct u 256 < (k : Int) then 1 else 0) 256 = k := hc
  rw [e, sm_add, sm_one (f := fun _ => 1) hb, hc2]
  omega
