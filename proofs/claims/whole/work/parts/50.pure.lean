/-! points from counts as they are -/
def jp (c : Nat → Int) (k : Nat) : Int := if c k = 65535 then -1 else c k
def jOK (c : Nat → Int) (x : Int) : Prop := 5 ≤ x ∧ x ≤ 12 ∧ cum (jp c) 256 = 2 ^ x.toNat
theorem jp_b {c : Nat → Int} {k : Nat} (h : 0 ≤ c k ∧ c k ≤ 65535) : -1 ≤ jp c k ∧ jp c k ≤ 65536 := by unfold jp; split <;> omega
theorem cum_hi {g : Nat → Int} : ∀ {n : Nat}, (∀ k, k < n → -1 ≤ g k ∧ g k ≤ 65536) → 0 ≤ cum g n ∧ cum g n ≤ 65536 * n
  | 0, _ => ⟨Int.le_refl _, Int.le_refl _⟩
  | n + 1, h => by
    have ih := cum_hi (g := g) (n := n) (fun k hk => h k (by omega))
    have hw := wgt_b (h n (by omega))
    show 0 ≤ cum g n + wgt (g n) ∧ cum g n + wgt (g n) ≤ 65536 * ((n + 1 : Nat) : Int)
    omega
