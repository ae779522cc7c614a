/-! an unsigned shift of a long, of which a byte is taken -/
theorem lZ_u : ∀ n : Fin 64, ((iZ (n : Nat)).toInt64.toUInt64 &&& Int64.toUInt64 63).toNat % 64 = (n : Nat) := by decide +kernel
theorem lZ_c (x : Int64) : ∃ c : Int, x.toInt = (x.toBitVec.toNat : Int) - c * 18446744073709551616 := by
  have h : x.toInt = if 2 * x.toBitVec.toNat < 2 ^ 64 then (x.toBitVec.toNat : Int) else (x.toBitVec.toNat : Int) - (2 ^ 64 : Nat) := BitVec.toInt_eq_toNat_cond x.toBitVec
  by_cases q : 2 * x.toBitVec.toNat < 2 ^ 64
  · rw [if_pos q] at h
    exact ⟨0, by omega⟩
  · rw [if_neg q] at h
    exact ⟨1, by omega⟩
theorem lZ_ushr (x : Int64) {n : Nat} (hn : n ≤ 56) : (x.toUInt64 >>> ((iZ n).toInt64.toUInt64 &&& Int64.toUInt64 63)).toInt64.toInt % 256 = x.toInt / 2 ^ n % 256 := by
  obtain ⟨c1, h1⟩ := lZ_c ((x.toUInt64 >>> ((iZ n).toInt64.toUInt64 &&& Int64.toUInt64 63)).toInt64)
  obtain ⟨c2, h2⟩ := lZ_c x
  have h3 : ((x.toUInt64 >>> ((iZ n).toInt64.toUInt64 &&& Int64.toUInt64 63)).toInt64).toBitVec.toNat = x.toBitVec.toNat / 2 ^ n := by
    show (x.toUInt64 >>> ((iZ n).toInt64.toUInt64 &&& Int64.toUInt64 63)).toNat = _
    rw [UInt64.toNat_shiftRight, lZ_u ⟨n, by omega⟩, Nat.shiftRight_eq_div_pow]
    rfl
  rw [h3] at h1
  have e : (18446744073709551616 : Int) = 256 * 2 ^ (56 - n) * 2 ^ n := by
    rw [show (256 : Int) = 2 ^ 8 from rfl, ← Int.pow_add, ← Int.pow_add, show 8 + (56 - n) + n = 64 by omega]
    rfl
  have e2 : x.toInt / 2 ^ n = (x.toBitVec.toNat : Int) / 2 ^ n + (-c2 * 2 ^ (56 - n)) * 256 := by
    have e3 : x.toInt = (x.toBitVec.toNat : Int) + (-c2 * 2 ^ (56 - n) * 256) * 2 ^ n := by
      rw [h2, e, Int.sub_eq_add_neg, ← Int.neg_mul, ← Int.mul_assoc, Int.mul_comm 256, ← Int.mul_assoc]
    rw [e3, Int.add_mul_ediv_right _ _ (Int.ne_of_gt (p2_pos n))]
  rw [h1, e2, Int.add_mul_emod_self_right, Int.natCast_ediv, p2n]
  omega
section ZUSHR
variable {p : Program} {l : Launch} {e : Env} {R : Room} {s : State} {m : MethodId} {args : Array Value} {below : List Frame} {meth : Method} {c : Code} {H : Heap} {locs : List Loc} {cells slots : Nat} {Q : State → Prop}
variable {cc : ByteArray} {pc : Nat} {ls : Array Slot} {rest : List Value} {a : Int} {x : Int64}
theorem z_lushr (hx : p.tables.exec = Jvm.exec) (hb : c.code = cc) (hdg : decode cc pc = .ok (.lushr, 1)) (n : Nat) (h : a = n ∧ n ≤ 56)
    (k : ∀ v : Int64, v.toInt % 256 = x.toInt / 2 ^ n % 256 → W p l e R s m args below meth c H locs cells slots Q (F0 m (pc + 1) ls (.long v :: rest))) : W p l e R s m args below meth c H locs cells slots Q (F0 m pc ls (.int (iZ a) :: .long x :: rest)) := by
  obtain ⟨rfl, h2⟩ := h
  exact lv_lushr hx hb hdg rfl (k _ (lZ_ushr x h2))
end ZUSHR
/-- the reference writes a long's bytes: d of n are left -/
def wrM (f f2 : Nat → Int) (L L2 n : Int) (d : Nat) (x : Int64) : Prop := (0 ≤ L ∧ L2 = L + n - d ∧ L + n ≤ 6000 ∧ 0 ≤ n ∧ (d : Int) ≤ n) ∧ (∀ k, k < 6000 → 0 ≤ f2 k ∧ f2 k < 256) ∧ (∀ k : Nat, (k : Int) < L → f2 k = f k) ∧ ∀ j : Nat, (j : Int) < n - d → f2 (L.toNat + j) = wbyte x (n - 1 - j).toNat
theorem wrM_0 {f : Nat → Int} {L n : Int} {x : Int64} (h1 : 1 ≤ n) (h2 : 0 ≤ L) (h3 : L + n ≤ 6000) (hf : ∀ k, k < 6000 → 0 ≤ f k ∧ f k < 256) : wrM f f L L n n.toNat x :=
  ⟨by omega, hf, fun _ _ => rfl, fun j hj => absurd hj (by omega)⟩
theorem wrM_s {f f2 : Nat → Int} {L L2 n : Int} {d : Nat} {x : Int64} (h : wrM f f2 L L2 n d x) (h1 : 1 ≤ n) (hd : 1 ≤ d) : wrM f (zu f2 L2.toNat (wbyte x (d - 1))) L (L2 + 1) n (d - 1) x := by
  obtain ⟨a, b, c, e⟩ := h
  refine ⟨by omega, fun k hk6 => ?_, fun k hk => ?_, fun j hj => ?_⟩
  · by_cases hk : k = L2.toNat
    · subst hk
      rw [zu_s]
      exact ⟨wbyte_lo _ _, wbyte_hi _ _⟩
    · rw [zu_n hk]
      exact b k hk6
  · rw [zu_n (by omega)]
    exact c k hk
  · by_cases hj2 : (j : Int) < n - d
    · rw [zu_n (by omega)]
      exact e j hj2
    · rw [show L.toNat + j = L2.toNat by omega, zu_s, show (n - 1 - (j : Int)).toNat = d - 1 by omega]
theorem wrM_end {f f2 : Nat → Int} {L L2 n : Int} {d : Nat} {x : Int64} (h : wrM f f2 L L2 n d x) (hd : d = 0) : L2 = L + n ∧ (∀ k, k < 6000 → 0 ≤ f2 k ∧ f2 k < 256) ∧ (∀ k : Nat, (k : Int) < L → f2 k = f k) ∧ ∀ j : Nat, (j : Int) < n → f2 (L.toNat + j) = wbyte x (n - 1 - j).toNat := by
  subst hd
  obtain ⟨a, b, c, e⟩ := h
  exact ⟨by omega, b, c, fun j hj => e j (by omega)⟩
/-- counting bytes from a place on -/
def cnB (b : Nat → Int) (a n s : Nat) : Int := cntS (fun j => b (a + j)) s n
theorem cnB_s {b g : Nat → Int} {a n : Nat} (h : ∀ s, s < 256 → g s = cnB b a n s) (hb : 0 ≤ b (a + n) ∧ b (a + n) < 256) : ∀ s, s < 256 → zu g (b (a + n)).toNat (g (b (a + n)).toNat + 1) s = cnB b a (n + 1) s := by
  intro s hs
  show _ = cntS (fun j => b (a + j)) s n + (if b (a + n) = (s : Int) then 1 else 0)
  by_cases e : s = (b (a + n)).toNat
  · subst e
    rw [zu_s, h _ hs, if_pos (by omega)]
    rfl
  · rw [zu_n e, h s hs, if_neg (by omega), Int.add_zero]
    rfl
theorem cntS_congr {g g2 : Nat → Int} {v : Int} : ∀ {n : Nat}, (∀ k, k < n → g k = g2 k) → cntS g v n = cntS g2 v n
  | 0, _ => rfl
  | n + 1, h => by
    show cntS g v n + (if g n = v then 1 else 0) = cntS g2 v n + (if g2 n = v then 1 else 0)
    rw [cntS_congr (fun k hk => h k (by omega)), h n (by omega)]
