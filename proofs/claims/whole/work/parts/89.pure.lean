/-! first points, and what is taken back -/
def fpF (c : Nat → Int) (P T : Int) (s : Nat) : Int := if c s * P ≤ 0 then 0 else if c s * P < T then -1 else c s * P / T
def ctF (c : Nat → Int) (P T : Int) (s : Nat) : Int := c s * P % T
theorem fp_z {c : Nat → Int} {P T : Int} {s : Nat} (h : c s * P ≤ 0) : fpF c P T s = 0 := if_pos h
theorem fp_m {c : Nat → Int} {P T : Int} {s : Nat} (h : 0 < c s * P) (h2 : c s * P < T) : fpF c P T s = -1 := by unfold fpF; rw [if_neg (by omega), if_pos h2]
theorem fp_q {c : Nat → Int} {P T : Int} {s : Nat} (h : 0 < c s * P) (h2 : T ≤ c s * P) : fpF c P T s = c s * P / T := by unfold fpF; rw [if_neg (by omega), if_neg (by omega)]
theorem fp_cs {c : Nat → Int} {P T : Int} {s : Nat} (hT : 0 < T) : (c s * P ≤ 0 ∧ fpF c P T s = 0) ∨ (0 < c s * P ∧ c s * P < T ∧ fpF c P T s = -1) ∨ (T ≤ c s * P ∧ 1 ≤ fpF c P T s ∧ T * fpF c P T s ≤ c s * P ∧ c s * P ≤ T * fpF c P T s + (T - 1)) := by
  by_cases h : c s * P ≤ 0
  · exact Or.inl ⟨h, fp_z h⟩
  · by_cases h2 : c s * P < T
    · exact Or.inr (Or.inl ⟨by omega, h2, fp_m (by omega) h2⟩)
    · have e := fp_q (c := c) (P := P) (T := T) (s := s) (by omega) (by omega)
      have a := Int.emod_add_mul_ediv (c s * P) T
      have b := Int.emod_nonneg (c s * P) (Int.ne_of_gt hT)
      have d := Int.emod_lt_of_pos (c s * P) hT
      have q : 1 ≤ c s * P / T := Int.le_ediv_of_mul_le hT (by omega)
      rw [e]
      exact Or.inr (Or.inr ⟨by omega, q, by omega, by omega⟩)
theorem fp_sum {c : Nat → Int} {P T : Int} (hP : 0 < P) (hT : 0 < T) : ∀ {n : Nat}, (∀ k, k < n → 0 ≤ c k) → P * sm c n ≤ T * cum (fpF c P T) n + (T - 1) * numR (fpF c P T) n ∧ T * cum (fpF c P T) n ≤ P * sm c n + T * n
  | 0, _ => by
    show P * 0 ≤ T * 0 + (T - 1) * 0 ∧ T * 0 ≤ P * 0 + T * ((0 : Nat) : Int)
    rw [Int.mul_zero, Int.mul_zero, Int.mul_zero, show ((0 : Nat) : Int) = 0 from rfl, Int.mul_zero]
    omega
  | n + 1, h => by
    have ih := fp_sum (c := c) hP hT (n := n) (fun k hk => h k (by omega))
    have e1 : P * sm c (n + 1) = P * sm c n + c n * P := by
      show P * (sm c n + c n) = _
      rw [Int.mul_add, Int.mul_comm P (c n)]
    have e2 : T * cum (fpF c P T) (n + 1) = T * cum (fpF c P T) n + T * wgt (fpF c P T n) := Int.mul_add ..
    have e3 : (T - 1) * numR (fpF c P T) (n + 1) = (T - 1) * numR (fpF c P T) n + (T - 1) * (if 0 < fpF c P T n then 1 else 0) := Int.mul_add ..
    have e4 : T * ((n + 1 : Nat) : Int) = T * (n : Int) + T := by rw [show ((n + 1 : Nat) : Int) = (n : Int) + 1 by omega, Int.mul_add, Int.mul_one]
    have hc0 : 0 ≤ c n * P := Int.mul_nonneg (h n (by omega)) (Int.le_of_lt hP)
    rw [e1, e2, e3, e4]
    rcases fp_cs (c := c) (P := P) (s := n) hT with ⟨a, b⟩ | ⟨a, b, d⟩ | ⟨a, b, d, f⟩
    · rw [b, show wgt 0 = 0 from rfl, if_neg (by omega), Int.mul_zero, Int.mul_zero]
      omega
    · rw [d, show wgt (-1) = 1 from rfl, if_neg (by omega), Int.mul_zero, Int.mul_one]
      omega
    · rw [wgt_pp (by omega), if_pos (by omega), Int.mul_one]
      omega
def sumOK (c : Nat → Int) (P T : Int) : Prop := 0 < P ∧ P ≤ 4096 ∧ 0 < T ∧ T = sm c 256 ∧ ∀ k, k < 256 → 0 ≤ c k ∧ c k ≤ 65535
theorem fp_mis {c : Nat → Int} {P T : Int} (h : sumOK c P T) : (P - cum (fpF c P T) 256 ≤ 0 ∨ P - cum (fpF c P T) 256 < numR (fpF c P T) 256) ∧ cum (fpF c P T) 256 ≤ P + 256 := by
  obtain ⟨hP, hP2, hT, hS, hc⟩ := h
  have s := fp_sum (c := c) hP hT (n := 256) (fun k hk => (hc k hk).1)
  rw [← hS, Int.mul_comm P T] at s
  constructor
  · rcases (by omega : P - cum (fpF c P T) 256 ≤ 0 ∨ 0 < P - cum (fpF c P T) 256) with q | q
    · exact Or.inl q
    · refine Or.inr ?_
      rcases (by omega : P - cum (fpF c P T) 256 < numR (fpF c P T) 256 ∨ numR (fpF c P T) 256 ≤ P - cum (fpF c P T) 256) with w | w
      · exact w
      · have m1 := Int.mul_le_mul_of_nonneg_left w (show 0 ≤ T - 1 by omega)
        have m2 : (T - 1) * (P - cum (fpF c P T) 256) = T * P - T * cum (fpF c P T) 256 - (P - cum (fpF c P T) 256) := by
          rw [Int.sub_mul, Int.one_mul, Int.mul_sub]
        omega
  · have m3 : T * cum (fpF c P T) 256 ≤ T * (P + 256) := by
      rw [Int.mul_add]
      exact s.2
    exact Int.le_of_mul_le_mul_left m3 hT
theorem fp_b {c : Nat → Int} {P T : Int} (h : sumOK c P T) {s : Nat} (hs : s < 256) : -1 ≤ fpF c P T s ∧ fpF c P T s ≤ 4096 ∧ (fpF c P T s = 0 ↔ ¬ 0 < c s) := by
  obtain ⟨hP, hP2, hT, hS, hc⟩ := h
  have g := sm_ge (f := c) (a := s) (n := 256) (fun k hk => (hc k hk).1) hs
  have hcs := hc s hs
  have hz : c s * P ≤ 0 ↔ ¬ 0 < c s := by
    constructor
    · intro q w
      have := Int.mul_pos w hP
      omega
    · intro q
      rw [show c s = 0 by omega, Int.zero_mul]
      omega
  rcases fp_cs (c := c) (P := P) (s := s) hT with ⟨a, b⟩ | ⟨a, b, d⟩ | ⟨a, b, d, f⟩
  · exact ⟨by omega, by omega, by rw [b]; exact ⟨fun _ => hz.mp a, fun _ => rfl⟩⟩
  · refine ⟨by omega, by omega, ?_⟩
    rw [← hz]
    omega
  · have m : T * fpF c P T s ≤ T * P := by
      have := Int.mul_le_mul_of_nonneg_right (show c s ≤ T by omega) (Int.le_of_lt hP)
      omega
    have m2 := Int.le_of_mul_le_mul_left m hT
    refine ⟨by omega, by omega, ?_⟩
    rw [← hz]
    omega
def usd (c : Nat → Int) (n : Nat) : Int := sm (fun s => if 0 < c s then 1 else 0) n
def nzN (d : Nat → Int) (n : Nat) : Int := sm (fun s => if d s = 0 then 0 else 1) n
theorem mx_max {g : Nat → Int} : ∀ {n : Nat}, (0 < n → mxF g n < n) ∧ ∀ s, s < n → g s ≤ g (mxF g n)
  | 0 => ⟨fun h => h, fun s h => absurd h (by omega)⟩
  | n + 1 => by
    have ih := mx_max (g := g) (n := n)
    show (0 < n + 1 → (if g n > g (mxF g n) then n else mxF g n) < n + 1) ∧ ∀ s, s < n + 1 → g s ≤ g (if g n > g (mxF g n) then n else mxF g n)
    by_cases e : g n > g (mxF g n)
    · rw [if_pos e]
      refine ⟨fun _ => by omega, fun s hs => ?_⟩
      by_cases q : s = n
      · rw [q]; exact Int.le_refl _
      · have := ih.2 s (by omega); omega
    · rw [if_neg e]
      refine ⟨fun _ => ?_, fun s hs => ?_⟩
      · cases n with
        | zero => exact Nat.zero_lt_one
        | succ n => have := ih.1 (by omega); omega
      · by_cases q : s = n
        · rw [q]; omega
        · exact ih.2 s (by omega)
theorem mx_cg {g g2 : Nat → Int} : ∀ {n : Nat}, n ≤ 256 → (∀ k, k < 256 → g k = g2 k) → mxF g n = mxF g2 n
  | 0, _, _ => rfl
  | n + 1, hn, h => by
    show (if g n > g (mxF g n) then n else mxF g n) = (if g2 n > g2 (mxF g2 n) then n else mxF g2 n)
    rw [mx_cg (by omega) h, h n (by omega)]
    have q : mxF g2 n < 256 := by
      cases n with
      | zero => exact (by decide : 0 < 256)
      | succ n => have := (mx_max (g := g2) (n := n + 1)).1 (by omega); omega
    rw [h _ q]
theorem tx_cg {g g2 : Nat → Int} (h : ∀ k, k < 256 → g k = g2 k) : ∀ {n : Nat}, ∀ k, k < 256 → txF g n k = txF g2 n k
  | 0 => h
  | n + 1 => by
    have ih := tx_cg h (n := n)
    have hm := mx_cg (g := txF g n) (g2 := txF g2 n) (n := 256) (Nat.le_refl _) ih
    have hb := (mx_max (g := txF g2 n) (n := 256)).1 (by decide)
    show ∀ k, k < 256 → zu (txF g n) (mxF (txF g n) 256) (txF g n (mxF (txF g n) 256) - 1) k = zu (txF g2 n) (mxF (txF g2 n) 256) (txF g2 n (mxF (txF g2 n) 256) - 1) k
    rw [hm, ih _ hb]
    intro k hk
    by_cases e : k = mxF (txF g2 n) 256
    · rw [e, zu_s, zu_s]
    · rw [zu_n e, zu_n e]; exact ih k hk
theorem cum_nz {d : Nat → Int} : ∀ {n : Nat}, (∀ k, k < n → -1 ≤ d k ∧ d k ≤ 1) → cum d n ≤ nzN d n
  | 0, _ => Int.le_refl _
  | n + 1, h => by
    have ih := cum_nz (d := d) (n := n) (fun k hk => h k (by omega))
    have q := h n (by omega)
    show cum d n + wgt (d n) ≤ nzN d n + (if d n = 0 then 0 else 1)
    unfold wgt
    split <;> split <;> omega
theorem nz_cg {d d2 : Nat → Int} {n : Nat} (h : ∀ k, k < n → (d k = 0 ↔ d2 k = 0)) : nzN d n = nzN d2 n := sm_congr (fun k hk => by
  by_cases e : d k = 0
  · rw [if_pos e, if_pos ((h k hk).mp e)]
  · rw [if_neg e, if_neg (fun q => e ((h k hk).mpr q))])
theorem tx_ok {g : Nat → Int} {P : Int} (hg : ∀ k, k < 256 → -1 ≤ g k ∧ g k ≤ 65536) (hn : nzN g 256 ≤ P) : ∀ {k : Nat}, (k : Int) ≤ cum g 256 - P → cum (txF g k) 256 = cum g 256 - k ∧ nzN (txF g k) 256 ≤ P ∧ ∀ s, s < 256 → -1 ≤ txF g k s ∧ txF g k s ≤ 65536 := by
  intro k
  induction k with
  | zero =>
    intro _
    rw [show txF g 0 = g from rfl]
    exact ⟨by omega, hn, hg⟩
  | succ k ih =>
    intro h
    obtain ⟨a, b, c⟩ := ih (by omega)
    have hb := (mx_max (g := txF g k) (n := 256)).1 (by decide)
    have hm := (mx_max (g := txF g k) (n := 256)).2
    rw [show txF g (k + 1) = zu (txF g k) (mxF (txF g k) 256) (txF g k (mxF (txF g k) 256) - 1) from rfl]
    show cum (zu (txF g k) (mxF (txF g k) 256) (txF g k (mxF (txF g k) 256) - 1)) 256 = cum g 256 - ((k + 1 : Nat) : Int) ∧ nzN (zu (txF g k) (mxF (txF g k) 256) (txF g k (mxF (txF g k) 256) - 1)) 256 ≤ P ∧ ∀ s, s < 256 → -1 ≤ zu (txF g k) (mxF (txF g k) 256) (txF g k (mxF (txF g k) 256) - 1) s ∧ zu (txF g k) (mxF (txF g k) 256) (txF g k (mxF (txF g k) 256) - 1) s ≤ 65536
    generalize mxF (txF g k) 256 = m at hb hm
    generalize txF g k = d at a b c hm
    have h2 : 2 ≤ d m := by
      rcases (by omega : 2 ≤ d m ∨ d m ≤ 1) with q | q
      · exact q
      · have := cum_nz (d := d) (n := 256) (fun s hs => ⟨(c s hs).1, by have := hm s hs; omega⟩)
        omega
    refine ⟨?_, ?_, fun s hs => ?_⟩
    · rw [(cum_upd (n := 256)).2 hb, wgt_pp (x := d m) (by omega), wgt_pp (by omega)]
      omega
    · rw [nz_cg (d2 := d) (fun s hs => ?_)]
      · exact b
      · by_cases e : s = m
        · rw [e, zu_s]; omega
        · rw [zu_n e]
    · have := c s hs
      by_cases e : s = m
      · rw [e, zu_s]; have := c m hb; omega
      · rw [zu_n e]; exact this
def shP (c : Nat → Int) (P T : Int) : Nat → Int := txF (gv (fpF c P T) (ctF c P T) (P - cum (fpF c P T) 256)) (cum (fpF c P T) 256 - P).toNat
theorem sh_fin {c f2 kc d f1 : Nat → Int} {P T S : Int} (h : sumOK c P T) (hu : usd c 256 ≤ P) (hS : S = cum (fpF c P T) 256) (h1 : ∀ k, k < 256 → f2 k = fpF c P T k) (h2 : ∀ k, k < 256 → 0 < fpF c P T k → kc k = ctF c P T k) (h3 : ∀ s, s < 256 → d s = gv f2 kc (P - S) s) (h4 : cum d 256 = cum f2 256 + ((P - S).toNat : Int)) (h5 : ∀ k, k < 256 → f1 k = txF d (S - P).toNat k) : (∀ k, k < 256 → f1 k = shP c P T k) ∧ cum f1 256 = P ∧ ∀ k, k < 256 → -1 ≤ f1 k ∧ f1 k ≤ 65536 := by
  have hd : ∀ s, s < 256 → d s = gv (fpF c P T) (ctF c P T) (P - cum (fpF c P T) 256) s := fun s hs => by rw [h3 s hs, hS]; exact gv_cg h1 h2 s hs
  have hdb : ∀ k, k < 256 → (-1 ≤ d k ∧ d k ≤ 65536) ∧ (d k = 0 ↔ ¬ 0 < c k) := fun k hk => by
    have b := fp_b h hk
    rw [hd k hk]
    by_cases q : 0 < fpF c P T k
    · have := gv_pos (ct := ctF c P T) (m := P - cum (fpF c P T) 256) q
      refine ⟨by omega, ?_⟩
      rw [← b.2.2]
      omega
    · rw [gv_np q]
      exact ⟨by omega, b.2.2⟩
  have hnz : nzN d 256 ≤ P := by
    have e : nzN d 256 = usd c 256 := sm_congr (fun k hk => by
      by_cases q : 0 < c k
      · rw [if_pos q, if_neg (fun w => (hdb k hk).2.mp w q)]
      · rw [if_neg q, if_pos ((hdb k hk).2.mpr q)])
    omega
  have hcd : cum d 256 = S + ((P - S).toNat : Int) := by rw [h4, hS, cum_congr (fun k hk => h1 k hk)]
  refine ⟨fun k hk => ?_, ?_⟩
  · rw [h5 k hk, hS]
    exact tx_cg hd k hk
  · by_cases q : S ≤ P
    · have e0 : (S - P).toNat = 0 := by omega
      rw [e0] at h5
      have h6 : ∀ k, k < 256 → f1 k = d k := h5
      refine ⟨?_, fun k hk => ?_⟩
      · rw [cum_congr (fun k hk => h6 k hk)]; omega
      · rw [h6 k hk]; exact (hdb k hk).1
    · have t := tx_ok (g := d) (P := P) (fun k hk => (hdb k hk).1) hnz (k := (S - P).toNat) (by omega)
      refine ⟨?_, fun k hk => ?_⟩
      · rw [cum_congr (fun k hk => h5 k hk), t.1]; omega
      · rw [h5 k hk]; exact t.2.2 k hk
def sOK (c : Nat → Int) (x : Int) : Prop := 5 ≤ x ∧ x ≤ 12 ∧ 0 < sm c 256 ∧ usd c 256 ≤ 2 ^ x.toNat
theorem sm_hi {c : Nat → Int} : ∀ {n : Nat}, (∀ k, k < n → 0 ≤ c k ∧ c k ≤ 65535) → 0 ≤ sm c n ∧ sm c n ≤ 65535 * n
  | 0, _ => ⟨Int.le_refl _, Int.le_refl _⟩
  | n + 1, h => by
    have a := sm_hi (c := c) (n := n) (fun k hk => h k (by omega))
    have b := h n (by omega)
    show 0 ≤ sm c n + c n ∧ sm c n + c n ≤ 65535 * ((n + 1 : Nat) : Int)
    omega
theorem usd_b {c : Nat → Int} {n : Nat} : 0 ≤ usd c n ∧ usd c n ≤ n := num_b
theorem usd_p {c : Nat → Int} {n : Nat} (h : 0 < c n) : usd c n + 1 = usd c (n + 1) := by
  show _ = usd c n + (if 0 < c n then 1 else 0)
  rw [if_pos h]
theorem usd_z {c : Nat → Int} {n : Nat} (h : c n ≤ 0) : usd c n = usd c (n + 1) := by
  show _ = usd c n + (if 0 < c n then 1 else 0)
  rw [if_neg (by omega)]
  omega
theorem sc_b {c : Int} {o : Nat} (h : 0 ≤ c ∧ c ≤ 65535) (ho : o ≤ 12) : 0 ≤ c * 2 ^ o ∧ c * 2 ^ o ≤ 268431360 := by
  have h1 := p2_le ho
  have h2 := p2_pos o
  have a := Int.mul_le_mul_of_nonneg_right h.2 (Int.le_of_lt h2)
  exact ⟨Int.mul_nonneg h.1 (Int.le_of_lt h2), by have e : (2 : Int) ^ 12 = 4096 := rfl; omega⟩
/-! sharing: what the walks keep -/
def fvF (y t : Int) : Int := if y ≤ 0 then 0 else if y < t then -1 else y / t
theorem fv_z {y t : Int} (h : y ≤ 0) : fvF y t = 0 := if_pos h
theorem fv_m {y t : Int} (h : 0 < y) (h2 : y < t) : fvF y t = -1 := by unfold fvF; rw [if_neg (by omega), if_pos h2]
theorem fv_q {y t : Int} (h : 0 < y) (h2 : t ≤ y) : fvF y t = y / t := by unfold fvF; rw [if_neg (by omega), if_neg (by omega)]
theorem gv_end {g ct : Nat → Int} {x : Int} {k s : Nat} (h : k ≤ x.toNat) (h2 : x ≤ (k : Int)) : gv g ct (k : Int) s = gv g ct x s := by
  by_cases q : 0 ≤ x
  · rw [show (k : Int) = x by omega]
  · rw [gv_0 (by omega), gv_0 (by omega)]
theorem gv_b {g ct : Nat → Int} {m : Int} {s : Nat} (h : -1 ≤ g s ∧ g s ≤ 4096) : -1 ≤ gv g ct m s ∧ gv g ct m s ≤ 65536 := by
  have := ind_nn (p := 0 < g s ∧ befN g ct s 256 < m)
  unfold gv
  omega
theorem ct_s {c k2 k3 : Nat → Int} {P T : Int} {j : Nat} (h2 : ∀ k, k < j → 0 < fpF c P T k → k2 k = ctF c P T k) (hq : (c j * P ≤ 0 ∧ k3 = k2) ∨ (0 < c j * P ∧ k3 = zu k2 j (c j * P % T))) : ∀ k, k < j + 1 → 0 < fpF c P T k → k3 k = ctF c P T k := by
  intro k hk hp
  rcases hq with ⟨a, b⟩ | ⟨a, b⟩
  · by_cases e : k = j
    · rw [e, fp_z a] at hp; omega
    · rw [b]; exact h2 k (by omega) hp
  · by_cases e : k = j
    · rw [b, e, zu_s]; rfl
    · rw [b, zu_n e]; exact h2 k (by omega) hp
theorem so_T {c : Nat → Int} {P T : Int} (h : sumOK c P T) : 0 < T ∧ T < 2147483648 := by
  obtain ⟨_, _, hT, hS, hc⟩ := h
  have := sm_hi (c := c) (n := 256) hc
  omega
theorem ct_b {c : Nat → Int} {P T : Int} (h : sumOK c P T) {s : Nat} : 0 ≤ ctF c P T s ∧ ctF c P T s < 2147483648 := by
  have t := so_T h
  have a := Int.emod_nonneg (c s * P) (show T ≠ 0 by omega)
  have b := Int.emod_lt_of_pos (c s * P) t.1
  unfold ctF
  omega
/-- who gets the next point -/
def nxI (d ct y : Nat → Int) (i : Nat) (b : Int) : Prop := (b = -1 ∧ ∀ u : Nat, u < i → ¬ (y u = 0 ∧ 1 ≤ d u)) ∨ ∃ n : Nat, b = (n : Int) ∧ n < i ∧ (y n = 0 ∧ 1 ≤ d n) ∧ ∀ u : Nat, u < i → y u = 0 ∧ 1 ≤ d u → u = n ∨ bfr ct n u
theorem nx_0 {d ct y : Nat → Int} : nxI d ct y 0 (-1) := Or.inl ⟨rfl, fun u h => absurd h (by omega)⟩
theorem nx_b {d ct y : Nat → Int} {i : Nat} {b : Int} (h : nxI d ct y i b) : -1 ≤ b ∧ b < i ∨ b = -1 := by
  rcases h with ⟨a, _⟩ | ⟨n, a, b, _⟩
  · exact Or.inr a
  · exact Or.inl (by omega)
theorem nx_n {d ct y : Nat → Int} {i : Nat} {b : Int} (h : nxI d ct y i b) (hb : b ≠ -1) : ∃ n : Nat, b = (n : Int) ∧ n < i := by
  rcases h with ⟨a, _⟩ | ⟨n, a, b, _⟩
  · exact absurd a hb
  · exact ⟨n, a, b⟩
theorem nx_x {d ct y : Nat → Int} {i : Nat} {b : Int} (h : nxI d ct y i b) (hc : ¬ (y i = 0 ∧ 1 ≤ d i)) : nxI d ct y (i + 1) b := by
  rcases h with ⟨a, e⟩ | ⟨n, a, e, f, g⟩
  · refine Or.inl ⟨a, fun u hu => ?_⟩
    by_cases q : u = i
    · rw [q]; exact hc
    · exact e u (by omega)
  · refine Or.inr ⟨n, a, by omega, f, fun u hu hv => ?_⟩
    by_cases q : u = i
    · rw [q] at hv; exact absurd hv hc
    · exact g u (by omega) hv
theorem nx_h {d ct y : Nat → Int} {i : Nat} {b : Int} (h : nxI d ct y i b) (hc : y i ≠ 0) : nxI d ct y (i + 1) b := nx_x h (fun q => hc q.1)
theorem nx_d {d ct y : Nat → Int} {i : Nat} {b : Int} (h : nxI d ct y i b) (hc : d i < 1) : nxI d ct y (i + 1) b := nx_x h (fun q => by have := q.2; omega)
theorem nx_k {d ct y : Nat → Int} {i n : Nat} {b : Int} (h : nxI d ct y i b) (hb : b = (n : Int)) (hc : ct i ≤ ct n) : nxI d ct y (i + 1) b := by
  rcases h with ⟨a, e⟩ | ⟨k, a, e, f, g⟩
  · omega
  · obtain rfl : k = n := by omega
    refine Or.inr ⟨k, a, by omega, f, fun u hu hv => ?_⟩
    by_cases q : u = i
    · rw [q]; exact Or.inr (by omega)
    · exact g u (by omega) hv
theorem nx_f {d ct y : Nat → Int} {i : Nat} {b : Int} (h : nxI d ct y i b) (hb : b = -1) (h1 : y i = 0) (h2 : 1 ≤ d i) : nxI d ct y (i + 1) (i : Int) := by
  rcases h with ⟨a, e⟩ | ⟨k, a, e, f, g⟩
  · refine Or.inr ⟨i, rfl, by omega, ⟨h1, h2⟩, fun u hu hv => ?_⟩
    by_cases q : u = i
    · exact Or.inl q
    · exact absurd hv (e u (by omega))
  · omega
theorem nx_t {d ct y : Nat → Int} {i n : Nat} {b : Int} (h : nxI d ct y i b) (hb : b = (n : Int)) (hc : ct n < ct i) (h1 : y i = 0) (h2 : 1 ≤ d i) : nxI d ct y (i + 1) (i : Int) := by
  rcases h with ⟨a, e⟩ | ⟨k, a, e, f, g⟩
  · omega
  · obtain rfl : k = n := by omega
    refine Or.inr ⟨i, rfl, by omega, ⟨h1, h2⟩, fun u hu hv => ?_⟩
    by_cases q : u = i
    · exact Or.inl q
    · rcases g u (by omega) hv with w | w
      · rw [w]; exact Or.inr (by omega)
      · exact Or.inr (by omega)
def hdI (g ct : Nat → Int) (k : Int) (y : Nat → Int) : Prop := ∀ u, u < 256 → y u = if 0 < g u ∧ befN g ct u 256 < k then 1 else 0
theorem hd_0 {g ct y : Nat → Int} (h : ∀ k, k < 256 → y k = 0) : hdI g ct ((0 : Nat) : Int) y := fun u hu => by
  have := bef_nn (g := g) (ct := ct) (t := u) (n := 256)
  rw [h u hu, if_neg (fun q => by have := q.2; omega)]
theorem hd_01 {g ct y : Nat → Int} {k : Int} (h : hdI g ct k y) : ∀ u, u < 256 → y u = 0 ∨ y u = 1 := fun u hu => by
  rw [h u hu]
  split
  · exact Or.inr rfl
  · exact Or.inl rfl
theorem hd_s {g ct y : Nat → Int} {b k : Nat} (hb : b < 256) (hg : 0 < g b) (hk : befN g ct b 256 = k) (h : hdI g ct (k : Int) y) : hdI g ct ((k + 1 : Nat) : Int) (zu y b 1) := by
  intro u hu
  by_cases e : u = b
  · subst e
    rw [zu_s, if_pos ⟨hg, by omega⟩]
  · rw [zu_n e, h u hu]
    by_cases q : 0 < g u
    · have := bef_inj (ct := ct) q hg hu hb
      by_cases w : befN g ct u 256 < k
      · rw [if_pos ⟨q, w⟩, if_pos ⟨q, by omega⟩]
      · rw [if_neg (fun v => w v.2), if_neg (fun v => by have v2 := v.2; exact e (this (by omega)))]
    · rw [if_neg (fun v => q v.1), if_neg (fun v => q v.1)]
theorem go_pick {g ct d y : Nat → Int} {k : Nat} {z : Int} (h1 : ∀ u, u < 256 → d u = gv g ct (k : Int) u) (h4 : hdI g ct (k : Int) y) (h5 : cnk g ct (k : Int) = (k : Int)) (hk : (k : Int) < numR g 256) (hz : nxI d ct y 256 z) : ∃ b : Nat, z = (b : Int) ∧ b < 256 ∧ 0 < g b ∧ befN g ct b 256 = k := by
  have hc : ∀ u, u < 256 → ((y u = 0 ∧ 1 ≤ d u) ↔ (0 < g u ∧ (k : Int) ≤ befN g ct u 256)) := fun u hu => by
    rw [h4 u hu, h1 u hu]
    by_cases q : 0 < g u
    · have p := gv_pos (ct := ct) (m := (k : Int)) q
      by_cases w : befN g ct u 256 < k
      · rw [if_pos ⟨q, w⟩]
        constructor
        · intro v; have := v.1; omega
        · intro v; have := v.2; omega
      · rw [if_neg (fun v => w v.2)]
        exact ⟨fun _ => ⟨q, by omega⟩, fun _ => ⟨rfl, p.1⟩⟩
    · rw [gv_np q]
      constructor
      · intro v; have := v.2; omega
      · intro v; exact absurd v.1 q
  rcases hz with ⟨_, e⟩ | ⟨n, a, e, f, w⟩
  · exact (pk_ex h5 hk (fun u hu hg => by
      rcases (by omega : befN g ct u 256 < (k : Int) ∨ (k : Int) ≤ befN g ct u 256) with q | q
      · exact q
      · exact absurd ((hc u hu).mpr ⟨hg, q⟩) (e u hu))).elim
  · have f2 := (hc n e).mp f
    exact ⟨n, a, e, f2.1, pk_b h5 e f2.1 f2.2 (fun u hu hg hq => w u hu ((hc u hu).mpr ⟨hg, hq⟩))⟩
