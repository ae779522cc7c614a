/-! booleans in arrays, and unsigned shifts of longs -/
theorem iZ_narZ {x : Int} (h : x = 0 ∨ x = 1) : vp_nar .boolean (iZ x) = iZ x := by rcases h with rfl | rfl <;> rfl
section ZBOOL
variable {p : Program} {l : Launch} {e : Env} {R : Room} {s : State} {m : MethodId} {args : Array Value} {below : List Frame} {meth : Method} {c : Code} {H : Heap} {locs : List Loc} {cells slots : Nat} {Q : State → Prop}
variable {cc : ByteArray} {pc : Nat} {ls : Array Slot} {rest : List Value} {a b : Int}
variable {D : va_G} {cl : List vw_C} {A : Nat → Prop} {ad : Nat} {tys : List (ClassId × FieldType)} {ws : va_W} {H0 : Heap} {cA : ClassId} {n : Nat} {g : Nat → Int}
theorem z_zald (hx : p.tables.exec = Jvm.exec) (hb : c.code = cc) (hK : va_K D cl tys s) (hP : va_P D cl ws H) (q0 t0 : Nat) (ha : ws[q0]? = some (ad, .inl (cA, n, .inl (zA g)))) (ht : tys[t0]? = some (cA, .boolean)) (k0 : Nat) (hi : a = k0 ∧ k0 < n ∧ n ≤ 2147483647) (hdg : decode cc pc = .ok (.baload, 1)) (k : W p l e R s m args below meth c H locs cells slots Q (F0 m (pc + 1) ls (.int (iZ (g k0)) :: rest))) : W p l e R s m args below meth c H locs cells slots Q (F0 m (pc) ls (.int (iZ a) :: .ref ad :: rest)) := va_zald hx hb hK hP q0 t0 ha ht (iZ_in (by omega) (by omega) (by omega)) hdg (by rw [iZ_cl (by omega) (by omega), hi.1]; exact k)
theorem z_zast (hx : p.tables.exec = Jvm.exec) (hb : c.code = cc) (hK : va_K D cl tys s) (hP : va_P D cl ws H) (hD : va_D A ws) (hS : va_S A H0 H locs) (q0 t0 : Nat) (ha : ws[q0]? = some (ad, .inl (cA, n, .inl (zA g)))) (ht : tys[t0]? = some (cA, .boolean)) (k0 : Nat) {x : Int} (hi : a = k0 ∧ k0 < n ∧ n ≤ 2147483647) (hz : x = 0 ∨ x = 1) (hdg : decode cc pc = .ok (.bastore, 1)) (k : ∀ (H1 : Heap) (locs1 : List Loc), va_P D cl (ws.set q0 (ad, .inl (cA, n, .inl (zA (zu g k0 x))))) H1 → va_D A (ws.set q0 (ad, .inl (cA, n, .inl (zA (zu g k0 x))))) → va_S A H0 H1 locs1 → W p l e R s m args below meth c H1 locs1 cells slots Q (F0 m (pc + 1) ls (rest))) : W p l e R s m args below meth c H locs cells slots Q (F0 m (pc) ls (.int (iZ x) :: .int (iZ a) :: .ref ad :: rest)) := by
  refine va_zast hx hb hK hP hD hS q0 t0 ha ht (iZ_in (by omega) (by omega) (by omega)) hdg (fun H1 locs1 h1 h2 h3 => ?_)
  rw [iZ_cl (by omega) (by omega), hi.1, Int.toNat_natCast, iZ_narZ hz, zA_u] at h1 h2
  exact k H1 locs1 h1 h2 h3
end ZBOOL
/-! counting cells -/
def cntS (g : Nat → Int) (v : Int) : Nat → Int
  | 0 => 0
  | n + 1 => cntS g v n + (if g n = v then 1 else 0)
theorem cntS_lo (g : Nat → Int) (v : Int) : ∀ n : Nat, 0 ≤ cntS g v n ∧ cntS g v n ≤ n
  | 0 => ⟨Int.le_refl 0, Int.le_refl 0⟩
  | n + 1 => by
    have := cntS_lo g v n
    show 0 ≤ cntS g v n + (if g n = v then 1 else 0) ∧ cntS g v n + (if g n = v then 1 else 0) ≤ ((n + 1 : Nat) : Int)
    split <;> omega
theorem cntS_s {g : Nat → Int} {v : Int} {n : Nat} (h : g n = v) : cntS g v (n + 1) = cntS g v n + 1 := by
  show cntS g v n + (if g n = v then 1 else 0) = _
  rw [if_pos h]
theorem cntS_n {g : Nat → Int} {v : Int} {n : Nat} (h : g n ≠ v) : cntS g v (n + 1) = cntS g v n := by
  show cntS g v n + (if g n = v then 1 else 0) = _
  rw [if_neg h, Int.add_zero]
theorem p2_lt {k m : Nat} {x : Int} (h : (2 : Int) ^ k ≤ x) (hx : x < 2 ^ m) : k < m := by
  rcases Nat.lt_or_ge k m with q | q
  · exact q
  · have := p2_le q
    omega
theorem p2_s (k : Nat) : (2 : Int) ^ (k + 1) = 2 * 2 ^ k := by rw [Int.pow_succ, Int.mul_comm]
def lastI (xp : Nat → Int) (i : Nat) (v : Int) : Prop := (v = -1 ∧ ∀ k, k < i → xp k = 0) ∨ ∃ n : Nat, v = (n : Int) ∧ n < i ∧ xp n ≠ 0 ∧ ∀ k, n < k → k < i → xp k = 0
theorem last_n {xp : Nat → Int} {i : Nat} {v : Int} (_ : lastI xp i v) (h : xp i ≠ 0) : lastI xp (i + 1) (i : Int) :=
  Or.inr ⟨i, rfl, by omega, h, fun k a b => absurd a (by omega)⟩
theorem last_z {xp : Nat → Int} {i : Nat} {v : Int} (hv : lastI xp i v) (h : xp i = 0) : lastI xp (i + 1) v := by
  rcases hv with ⟨h1, h2⟩ | ⟨n, h1, h2, h3, h4⟩
  · refine Or.inl ⟨h1, fun k hk => ?_⟩
    by_cases e : k = i
    · rw [e]; exact h
    · exact h2 k (by omega)
  · refine Or.inr ⟨n, h1, by omega, h3, fun k a b => ?_⟩
    by_cases e : k = i
    · rw [e]; exact h
    · exact h4 k a (by omega)
theorem last_e {xp : Nat → Int} {i : Nat} {v : Int} (hv : lastI xp i v) (h : i = 256) : (v = -1 ∧ ∀ k, k < 256 → xp k = 0) ∨ ∃ n : Nat, v = (n : Int) ∧ n ≤ 255 ∧ xp n ≠ 0 ∧ ∀ k, n < k → k ≤ 255 → xp k = 0 := by
  subst h
  rcases hv with h1 | ⟨n, h1, h2, h3, h4⟩
  · exact Or.inl h1
  · exact Or.inr ⟨n, h1, by omega, h3, fun k a b => h4 k a (by omega)⟩
