/-! ints as whole numbers: iZ z is the int of a number z; every value of a walk is kept as iZ of a term -/
def iZ (z : Int) : Int32 := Int32.ofInt z
theorem iZ_add (a b : Int) : iZ a + iZ b = iZ (a + b) := (Int32.ofInt_add a b).symm
theorem iZ_sub (a b : Int) : iZ a - iZ b = iZ (a - b) := (Int32.ofInt_sub a b).symm
theorem iZ_mul (a b : Int) : iZ a * iZ b = iZ (a * b) := (Int32.ofInt_mul a b).symm
theorem iZ_toInt {a : Int} (h1 : -2147483648 ≤ a) (h2 : a < 2147483648) : (iZ a).toInt = a := Int32.toInt_ofInt_of_le (by omega) (by omega)
theorem iZ_of (x : Int32) : x = iZ x.toInt := (Int32.ofInt_toInt x).symm
theorem iZ_lo (x : Int32) : -2147483648 ≤ x.toInt := by
  have := Int32.le_toInt x
  omega
theorem iZ_hi (x : Int32) : x.toInt < 2147483648 := by
  have := Int32.toInt_lt x
  omega
theorem iZ_nI (n : Nat) : nI n = iZ n := Int32.ofInt_eq_ofNat.symm
/-- in the range of an int -/
abbrev zr (a : Int) : Prop := -2147483648 ≤ a ∧ a < 2147483648
theorem iZ_le {a b : Int} (ha : zr a) (hb : zr b) : iZ a ≤ iZ b ↔ a ≤ b := by
  rw [Int32.le_iff_toInt_le, iZ_toInt ha.1 ha.2, iZ_toInt hb.1 hb.2]
theorem iZ_lt {a b : Int} (ha : zr a) (hb : zr b) : iZ a < iZ b ↔ a < b := by
  rw [Int32.lt_iff_toInt_lt, iZ_toInt ha.1 ha.2, iZ_toInt hb.1 hb.2]
theorem iZ_eq {a b : Int} (ha : zr a) (hb : zr b) : iZ a = iZ b ↔ a = b := by
  rw [← Int32.toInt_inj, iZ_toInt ha.1 ha.2, iZ_toInt hb.1 hb.2]
theorem zr_0 : zr 0 := ⟨by decide, by decide⟩
theorem iZ_0 : (0 : Int32) = iZ 0 := rfl
theorem iZ_cl {a : Int} (h0 : 0 ≤ a) (h : a < 2147483648) : (iZ a).toNatClampNeg = a.toNat := by
  show (iZ a).toInt.toNat = _
  rw [iZ_toInt (by omega) h]
theorem iZ_in {a : Int} {n : Nat} (h0 : 0 ≤ a) (h1 : a < n) (hn : (n : Int) ≤ 2147483648) : vp_in (iZ a) n := vp_in_iff.mpr (by
  rw [iZ_toInt (by omega) (by omega)]
  exact ⟨h0, h1⟩)
theorem iZ_bits (a : Int) : (iZ a).toBitVec.toNat = (a % 4294967296).toNat := by
  show (BitVec.ofInt 32 a).toNat = _
  rw [BitVec.toNat_ofInt]
  rfl
theorem iZ_ext {x y : Int32} (h : x.toBitVec.toNat = y.toBitVec.toNat) : x = y := Int32.toBitVec.inj (BitVec.eq_of_toNat_eq h)
theorem iZ_sh : ∀ n : Fin 32, ((iZ (n : Nat) &&& 31).toBitVec.smod 32).toNat = (n : Nat) := by decide +kernel
theorem iZ_p2 : ∀ n : Fin 32, (iZ ((2 : Int) ^ (n : Nat))).toBitVec.toNat = 2 ^ (n : Nat) := by decide +kernel
theorem iZ_mk : ∀ n : Fin 32, (iZ ((2 : Int) ^ (n : Nat) - 1)).toBitVec.toNat = 2 ^ (n : Nat) - 1 := by decide +kernel
theorem iZ_shl (a : Int) {n : Nat} (hn : n < 32) : iZ a <<< (iZ n &&& 31) = iZ (a * 2 ^ n) := by
  rw [← iZ_mul]
  apply iZ_ext
  rw [pk_shl (iZ a) (iZ n &&& 31) n (iZ_sh ⟨n, hn⟩)]
  rw [Int32.toBitVec_mul, BitVec.toNat_mul, iZ_p2 ⟨n, hn⟩]
theorem iZ_shr {a : Int} (h0 : 0 ≤ a) (h : a < 2147483648) {n : Nat} (hn : n < 32) : iZ a >>> (iZ n &&& 31) = iZ (a / 2 ^ n) := by
  apply Int32.toInt_inj.mp
  rw [pk_shr (iZ a) (iZ n &&& 31) n (iZ_sh ⟨n, hn⟩), iZ_toInt (by omega) h, Int.shiftRight_eq_div_pow]
  have h1 : 0 ≤ a / ((2 ^ n : Nat) : Int) := Int.ediv_nonneg h0 (Int.natCast_nonneg _)
  have h2 : a / ((2 ^ n : Nat) : Int) ≤ a := Int.ediv_le_self _ h0
  have e : ((2 ^ n : Nat) : Int) = (2 : Int) ^ n := by simp
  rw [← e, iZ_toInt (by omega) (by omega)]
theorem iZ_and (a : Int) {n : Nat} (hn : n < 32) : iZ a &&& iZ (2 ^ n - 1) = iZ (a % 2 ^ n) := by
  rw [pk_and (iZ a) n (iZ_mk ⟨n, hn⟩), iZ_nI, iZ_bits]
  congr 1
  have hd : ((2 : Int) ^ n) ∣ 4294967296 := by
    have : (4294967296 : Int) = 2 ^ n * 2 ^ (32 - n) := by
      rw [← Int.pow_add, show n + (32 - n) = 32 by omega]
      rfl
    exact ⟨_, this⟩
  have h0 : 0 ≤ a % 4294967296 := Int.emod_nonneg _ (by decide)
  rw [Int.natCast_emod, Int.toNat_of_nonneg h0]
  have e : ((2 ^ n : Nat) : Int) = (2 : Int) ^ n := by simp
  rw [e, Int.emod_emod_of_dvd _ hd]
theorem iZ_or {a b : Int} {n : Nat} (ha0 : 0 ≤ a) (ha : a < 2 ^ n) (hb0 : 0 ≤ b) (hs : a + b * 2 ^ n < 4294967296) : iZ a ||| iZ (b * 2 ^ n) = iZ (a + b * 2 ^ n) := by
  have hp : (0 : Int) ≤ b * 2 ^ n := Int.mul_nonneg hb0 (Int.le_of_lt (Int.pow_pos (by decide)))
  have hq : b * 2 ^ n < 4294967296 := by omega
  apply iZ_ext
  rw [Int32.toBitVec_or, BitVec.toNat_or, iZ_bits, iZ_bits, iZ_bits, Int.emod_eq_of_lt ha0 (by omega), Int.emod_eq_of_lt hp hq, Int.emod_eq_of_lt (by omega) hs]
  obtain ⟨x, rfl⟩ := Int.eq_ofNat_of_zero_le ha0
  obtain ⟨y, rfl⟩ := Int.eq_ofNat_of_zero_le hb0
  have e : ((2 ^ n : Nat) : Int) = (2 : Int) ^ n := by simp
  rw [← e] at ha ⊢
  have hx : x < 2 ^ n := by omega
  have e2 : ((y : Int) * ((2 ^ n : Nat) : Int)).toNat = y * 2 ^ n := by rw [← Int.natCast_mul]; rfl
  have e3 : ((x : Int) + (y : Int) * ((2 ^ n : Nat) : Int)).toNat = x + y * 2 ^ n := by rw [← Int.natCast_mul, ← Int.natCast_add]; rfl
  rw [e2, e3, Int.toNat_natCast, Nat.mul_comm y, Nat.add_comm, Nat.two_pow_add_eq_or_of_lt hx, Nat.or_comm]
theorem iZ_div {a d : Int} (ha : 0 ≤ a) (ha2 : a < 2147483648) (hd : 0 < d) (hd2 : d < 2147483648) : iZ a / iZ d = iZ (a / d) := by
  obtain ⟨x, rfl⟩ := Int.eq_ofNat_of_zero_le ha
  obtain ⟨y, rfl⟩ := Int.eq_ofNat_of_zero_le (Int.le_of_lt hd)
  rw [← iZ_nI, ← iZ_nI, pk_div (by omega) (by omega) (by omega), iZ_nI, Int.natCast_ediv]
theorem iZ_rem {a d : Int} (ha : 0 ≤ a) (ha2 : a < 2147483648) (hd : 0 < d) (hd2 : d < 2147483648) : iZ a - iZ a / iZ d * iZ d = iZ (a % d) := by
  rw [iZ_div ha ha2 hd hd2, iZ_mul, iZ_sub]
  congr 1
  have := Int.emod_add_mul_ediv a d
  have e := Int.mul_comm d (a / d)
  omega
theorem iZ_i2b (a : Int) : (iZ a).toInt8.toInt32 = iZ (a.bmod 256) := by
  show (Int32.ofInt a).toInt8.toInt32 = _
  rw [Int32.toInt8_ofInt, ← Int32.ofInt_int8ToInt, Int8.toInt_ofInt]
  rfl
theorem iZ_bmod (a : Int) : a.bmod 256 % 256 = a % 256 := Int.bmod_emod
theorem iZ_narB (a : Int) : vp_nar .byte (iZ a) = iZ (a.bmod 256) := by rw [vp_nar_byte, iZ_i2b]
theorem bm_lo (a : Int) : -128 ≤ a.bmod 256 := by have := Int.le_bmod (x := a) (m := 256) (by decide); omega
theorem bm_hi (a : Int) : a.bmod 256 < 128 := by have := Int.bmod_lt (x := a) (m := 256) (by decide); omega
theorem bm_bm (a : Int) : (a.bmod 256).bmod 256 = a.bmod 256 := Int.bmod_bmod
/-- arrays: their contents as numbers -/
def zA (g : Nat → Int) : Nat → Int32 := fun k => iZ (g k)
def zu (g : Nat → Int) (k : Nat) (x : Int) : Nat → Int := fun j => if j = k then x else g j
theorem zu_s {g : Nat → Int} {k : Nat} {x : Int} : zu g k x k = x := if_pos rfl
theorem zu_n {g : Nat → Int} {k j : Nat} {x : Int} (h : j ≠ k) : zu g k x j = g j := if_neg h
theorem zA_u (g : Nat → Int) (k : Nat) (x : Int) : upd (zA g) k (iZ x) = zA (zu g k x) := by
  funext j
  show (if j = k then iZ x else iZ (g j)) = iZ (if j = k then x else g j)
  split <;> rfl
/-! the instructions' rows, over iZ -/
section ZROWS
variable {p : Program} {l : Launch} {e : Env} {R : Room} {s : State} {m : MethodId} {args : Array Value} {below : List Frame} {meth : Method} {c : Code} {H : Heap} {locs : List Loc} {cells slots : Nat} {Q : State → Prop}
variable {cc : ByteArray} {pc : Nat} {ls : Array Slot} {rest : List Value} {a b : Int}
theorem z_iadd (hx : p.tables.exec = Jvm.exec) (hb : c.code = cc) (hdg : decode cc pc = .ok (.iadd, 1)) (k : W p l e R s m args below meth c H locs cells slots Q (F0 m (pc + 1) ls (.int (iZ (a + b)) :: rest))) : W p l e R s m args below meth c H locs cells slots Q (F0 m (pc) ls (.int (iZ b) :: .int (iZ a) :: rest)) := lv_iadd hx hb hdg (by rw [iZ_add]; exact k)
theorem z_isub (hx : p.tables.exec = Jvm.exec) (hb : c.code = cc) (hdg : decode cc pc = .ok (.isub, 1)) (k : W p l e R s m args below meth c H locs cells slots Q (F0 m (pc + 1) ls (.int (iZ (a - b)) :: rest))) : W p l e R s m args below meth c H locs cells slots Q (F0 m (pc) ls (.int (iZ b) :: .int (iZ a) :: rest)) := lv_isub hx hb hdg (by rw [iZ_sub]; exact k)
theorem z_imul (hx : p.tables.exec = Jvm.exec) (hb : c.code = cc) (hdg : decode cc pc = .ok (.imul, 1)) (k : W p l e R s m args below meth c H locs cells slots Q (F0 m (pc + 1) ls (.int (iZ (a * b)) :: rest))) : W p l e R s m args below meth c H locs cells slots Q (F0 m (pc) ls (.int (iZ b) :: .int (iZ a) :: rest)) := lv_imul hx hb hdg (by rw [iZ_mul]; exact k)
theorem z_idiv (hx : p.tables.exec = Jvm.exec) (hb : c.code = cc) (hdg : decode cc pc = .ok (.idiv, 1)) (h : 0 ≤ a ∧ a < 2147483648 ∧ 0 < b ∧ b < 2147483648) (k : W p l e R s m args below meth c H locs cells slots Q (F0 m (pc + 1) ls (.int (iZ (a / b)) :: rest))) : W p l e R s m args below meth c H locs cells slots Q (F0 m (pc) ls (.int (iZ b) :: .int (iZ a) :: rest)) := lv_idiv hx hb hdg (fun q => absurd ((iZ_eq ⟨by omega, h.2.2.2⟩ zr_0).mp q) (by omega)) (by rw [iZ_div h.1 h.2.1 h.2.2.1 h.2.2.2]; exact k)
theorem z_irem (hx : p.tables.exec = Jvm.exec) (hb : c.code = cc) (hdg : decode cc pc = .ok (.irem, 1)) (h : 0 ≤ a ∧ a < 2147483648 ∧ 0 < b ∧ b < 2147483648) (k : W p l e R s m args below meth c H locs cells slots Q (F0 m (pc + 1) ls (.int (iZ (a % b)) :: rest))) : W p l e R s m args below meth c H locs cells slots Q (F0 m (pc) ls (.int (iZ b) :: .int (iZ a) :: rest)) := lv_irem hx hb hdg (fun q => absurd ((iZ_eq ⟨by omega, h.2.2.2⟩ zr_0).mp q) (by omega)) (by rw [iZ_rem h.1 h.2.1 h.2.2.1 h.2.2.2]; exact k)
theorem z_ishl (hx : p.tables.exec = Jvm.exec) (hb : c.code = cc) (hdg : decode cc pc = .ok (.ishl, 1)) (n : Nat) (P : Int) (hP : (2 : Int) ^ n = P) (h : b = n ∧ n < 32) (k : W p l e R s m args below meth c H locs cells slots Q (F0 m (pc + 1) ls (.int (iZ (a * P)) :: rest))) : W p l e R s m args below meth c H locs cells slots Q (F0 m (pc) ls (.int (iZ b) :: .int (iZ a) :: rest)) := lv_ishl hx hb hdg (by rw [h.1, iZ_shl a h.2, hP]; exact k)
theorem z_ishr (hx : p.tables.exec = Jvm.exec) (hb : c.code = cc) (hdg : decode cc pc = .ok (.ishr, 1)) (n : Nat) (P : Int) (hP : (2 : Int) ^ n = P) (h : b = n ∧ n < 32 ∧ 0 ≤ a ∧ a < 2147483648) (k : W p l e R s m args below meth c H locs cells slots Q (F0 m (pc + 1) ls (.int (iZ (a / P)) :: rest))) : W p l e R s m args below meth c H locs cells slots Q (F0 m (pc) ls (.int (iZ b) :: .int (iZ a) :: rest)) := lv_ishr hx hb hdg (by rw [h.1, iZ_shr h.2.2.1 h.2.2.2 h.2.1, hP]; exact k)
theorem z_iand (hx : p.tables.exec = Jvm.exec) (hb : c.code = cc) (hdg : decode cc pc = .ok (.iand, 1)) (n : Nat) (P : Int) (hP : (2 : Int) ^ n = P) (h : b = P - 1) (hn : n < 32) (k : W p l e R s m args below meth c H locs cells slots Q (F0 m (pc + 1) ls (.int (iZ (a % P)) :: rest))) : W p l e R s m args below meth c H locs cells slots Q (F0 m (pc) ls (.int (iZ b) :: .int (iZ a) :: rest)) := lv_iand hx hb hdg (by rw [h, ← hP, iZ_and a hn, hP]; exact k)
theorem z_ior (hx : p.tables.exec = Jvm.exec) (hb : c.code = cc) (hdg : decode cc pc = .ok (.ior, 1)) (n : Nat) (P : Int) (hP : (2 : Int) ^ n = P) (y : Int) (h : b = y * P) (h1 : 0 ≤ a ∧ a < P ∧ 0 ≤ y ∧ a + y * P < 4294967296) (k : W p l e R s m args below meth c H locs cells slots Q (F0 m (pc + 1) ls (.int (iZ (a + y * P)) :: rest))) : W p l e R s m args below meth c H locs cells slots Q (F0 m (pc) ls (.int (iZ b) :: .int (iZ a) :: rest)) := lv_ior hx hb hdg (by subst hP; rw [h, iZ_or h1.1 h1.2.1 h1.2.2.1 h1.2.2.2]; exact k)
theorem z_i2b (hx : p.tables.exec = Jvm.exec) (hb : c.code = cc) (hdg : decode cc pc = .ok (.i2b, 1)) (k : W p l e R s m args below meth c H locs cells slots Q (F0 m (pc + 1) ls (.int (iZ (a.bmod 256)) :: rest))) : W p l e R s m args below meth c H locs cells slots Q (F0 m (pc) ls (.int (iZ a) :: rest)) := lv_i2b hx hb hdg (iZ_i2b a) k
/-- the number on top in another form -/
theorem z_top (a' : Int) (h : a = a') (k : W p l e R s m args below meth c H locs cells slots Q (F0 m (pc) ls (.int (iZ a') :: rest))) : W p l e R s m args below meth c H locs cells slots Q (F0 m (pc) ls (.int (iZ a) :: rest)) := h ▸ k
theorem z_icmp_lt (hx : p.tables.exec = Jvm.exec) (hb : c.code = cc) {off : Int} {tgt : Nat} (hdg : decode cc pc = .ok (.if_icmp .lt off, 3)) (ht : (pc : Int) + off = (tgt : Int)) (r : zr a ∧ zr b) (kt : a < b → W p l e R s m args below meth c H locs cells slots Q (F0 m (tgt) ls (rest))) (kf : b ≤ a → W p l e R s m args below meth c H locs cells slots Q (F0 m (pc + 3) ls (rest))) : W p l e R s m args below meth c H locs cells slots Q (F0 m (pc) ls (.int (iZ b) :: .int (iZ a) :: rest)) := lv_icmp_lt hx hb hdg ht (fun q => kt ((iZ_lt r.1 r.2).mp q)) (fun q => kf (Int.not_lt.mp fun z => q ((iZ_lt r.1 r.2).mpr z)))
theorem z_if_lt (hx : p.tables.exec = Jvm.exec) (hb : c.code = cc) {off : Int} {tgt : Nat} (hdg : decode cc pc = .ok (.ifCond .lt off, 3)) (ht : (pc : Int) + off = (tgt : Int)) (r : zr a) (kt : a < 0 → W p l e R s m args below meth c H locs cells slots Q (F0 m (tgt) ls (rest))) (kf : 0 ≤ a → W p l e R s m args below meth c H locs cells slots Q (F0 m (pc + 3) ls (rest))) : W p l e R s m args below meth c H locs cells slots Q (F0 m (pc) ls (.int (iZ a) :: rest)) := lv_if_lt hx hb hdg ht (fun q => kt ((iZ_lt r zr_0).mp q)) (fun q => kf (Int.not_lt.mp fun z => q ((iZ_lt r zr_0).mpr z)))
theorem z_icmp_le (hx : p.tables.exec = Jvm.exec) (hb : c.code = cc) {off : Int} {tgt : Nat} (hdg : decode cc pc = .ok (.if_icmp .le off, 3)) (ht : (pc : Int) + off = (tgt : Int)) (r : zr a ∧ zr b) (kt : a ≤ b → W p l e R s m args below meth c H locs cells slots Q (F0 m (tgt) ls (rest))) (kf : b < a → W p l e R s m args below meth c H locs cells slots Q (F0 m (pc + 3) ls (rest))) : W p l e R s m args below meth c H locs cells slots Q (F0 m (pc) ls (.int (iZ b) :: .int (iZ a) :: rest)) := lv_icmp_le hx hb hdg ht (fun q => kt ((iZ_le r.1 r.2).mp q)) (fun q => kf (Int.not_le.mp fun z => q ((iZ_le r.1 r.2).mpr z)))
theorem z_if_le (hx : p.tables.exec = Jvm.exec) (hb : c.code = cc) {off : Int} {tgt : Nat} (hdg : decode cc pc = .ok (.ifCond .le off, 3)) (ht : (pc : Int) + off = (tgt : Int)) (r : zr a) (kt : a ≤ 0 → W p l e R s m args below meth c H locs cells slots Q (F0 m (tgt) ls (rest))) (kf : 0 < a → W p l e R s m args below meth c H locs cells slots Q (F0 m (pc + 3) ls (rest))) : W p l e R s m args below meth c H locs cells slots Q (F0 m (pc) ls (.int (iZ a) :: rest)) := lv_if_le hx hb hdg ht (fun q => kt ((iZ_le r zr_0).mp q)) (fun q => kf (Int.not_le.mp fun z => q ((iZ_le r zr_0).mpr z)))
theorem z_icmp_gt (hx : p.tables.exec = Jvm.exec) (hb : c.code = cc) {off : Int} {tgt : Nat} (hdg : decode cc pc = .ok (.if_icmp .gt off, 3)) (ht : (pc : Int) + off = (tgt : Int)) (r : zr a ∧ zr b) (kt : b < a → W p l e R s m args below meth c H locs cells slots Q (F0 m (tgt) ls (rest))) (kf : a ≤ b → W p l e R s m args below meth c H locs cells slots Q (F0 m (pc + 3) ls (rest))) : W p l e R s m args below meth c H locs cells slots Q (F0 m (pc) ls (.int (iZ b) :: .int (iZ a) :: rest)) := lv_icmp_gt hx hb hdg ht (fun q => kt ((iZ_lt r.2 r.1).mp q)) (fun q => kf (Int.not_lt.mp fun z => q ((iZ_lt r.2 r.1).mpr z)))
theorem z_if_gt (hx : p.tables.exec = Jvm.exec) (hb : c.code = cc) {off : Int} {tgt : Nat} (hdg : decode cc pc = .ok (.ifCond .gt off, 3)) (ht : (pc : Int) + off = (tgt : Int)) (r : zr a) (kt : 0 < a → W p l e R s m args below meth c H locs cells slots Q (F0 m (tgt) ls (rest))) (kf : a ≤ 0 → W p l e R s m args below meth c H locs cells slots Q (F0 m (pc + 3) ls (rest))) : W p l e R s m args below meth c H locs cells slots Q (F0 m (pc) ls (.int (iZ a) :: rest)) := lv_if_gt hx hb hdg ht (fun q => kt ((iZ_lt zr_0 r).mp q)) (fun q => kf (Int.not_lt.mp fun z => q ((iZ_lt zr_0 r).mpr z)))
theorem z_icmp_ge (hx : p.tables.exec = Jvm.exec) (hb : c.code = cc) {off : Int} {tgt : Nat} (hdg : decode cc pc = .ok (.if_icmp .ge off, 3)) (ht : (pc : Int) + off = (tgt : Int)) (r : zr a ∧ zr b) (kt : b ≤ a → W p l e R s m args below meth c H locs cells slots Q (F0 m (tgt) ls (rest))) (kf : a < b → W p l e R s m args below meth c H locs cells slots Q (F0 m (pc + 3) ls (rest))) : W p l e R s m args below meth c H locs cells slots Q (F0 m (pc) ls (.int (iZ b) :: .int (iZ a) :: rest)) := lv_icmp_ge hx hb hdg ht (fun q => kt ((iZ_le r.2 r.1).mp q)) (fun q => kf (Int.not_le.mp fun z => q ((iZ_le r.2 r.1).mpr z)))
theorem z_if_ge (hx : p.tables.exec = Jvm.exec) (hb : c.code = cc) {off : Int} {tgt : Nat} (hdg : decode cc pc = .ok (.ifCond .ge off, 3)) (ht : (pc : Int) + off = (tgt : Int)) (r : zr a) (kt : 0 ≤ a → W p l e R s m args below meth c H locs cells slots Q (F0 m (tgt) ls (rest))) (kf : a < 0 → W p l e R s m args below meth c H locs cells slots Q (F0 m (pc + 3) ls (rest))) : W p l e R s m args below meth c H locs cells slots Q (F0 m (pc) ls (.int (iZ a) :: rest)) := lv_if_ge hx hb hdg ht (fun q => kt ((iZ_le zr_0 r).mp q)) (fun q => kf (Int.not_le.mp fun z => q ((iZ_le zr_0 r).mpr z)))
theorem z_icmp_eq (hx : p.tables.exec = Jvm.exec) (hb : c.code = cc) {off : Int} {tgt : Nat} (hdg : decode cc pc = .ok (.if_icmp .eq off, 3)) (ht : (pc : Int) + off = (tgt : Int)) (r : zr a ∧ zr b) (kt : a = b → W p l e R s m args below meth c H locs cells slots Q (F0 m (tgt) ls (rest))) (kf : a ≠ b → W p l e R s m args below meth c H locs cells slots Q (F0 m (pc + 3) ls (rest))) : W p l e R s m args below meth c H locs cells slots Q (F0 m (pc) ls (.int (iZ b) :: .int (iZ a) :: rest)) := lv_icmp_eq hx hb hdg ht (fun q => kt ((iZ_eq r.1 r.2).mp q)) (fun q => kf (fun z => q ((iZ_eq r.1 r.2).mpr z)))
theorem z_if_eq (hx : p.tables.exec = Jvm.exec) (hb : c.code = cc) {off : Int} {tgt : Nat} (hdg : decode cc pc = .ok (.ifCond .eq off, 3)) (ht : (pc : Int) + off = (tgt : Int)) (r : zr a) (kt : a = 0 → W p l e R s m args below meth c H locs cells slots Q (F0 m (tgt) ls (rest))) (kf : a ≠ 0 → W p l e R s m args below meth c H locs cells slots Q (F0 m (pc + 3) ls (rest))) : W p l e R s m args below meth c H locs cells slots Q (F0 m (pc) ls (.int (iZ a) :: rest)) := lv_if_eq hx hb hdg ht (fun q => kt ((iZ_eq r zr_0).mp q)) (fun q => kf (fun z => q ((iZ_eq r zr_0).mpr z)))
theorem z_icmp_ne (hx : p.tables.exec = Jvm.exec) (hb : c.code = cc) {off : Int} {tgt : Nat} (hdg : decode cc pc = .ok (.if_icmp .ne off, 3)) (ht : (pc : Int) + off = (tgt : Int)) (r : zr a ∧ zr b) (kt : a ≠ b → W p l e R s m args below meth c H locs cells slots Q (F0 m (tgt) ls (rest))) (kf : a = b → W p l e R s m args below meth c H locs cells slots Q (F0 m (pc + 3) ls (rest))) : W p l e R s m args below meth c H locs cells slots Q (F0 m (pc) ls (.int (iZ b) :: .int (iZ a) :: rest)) := lv_icmp_ne hx hb hdg ht (fun q => kt (fun z => q ((iZ_eq r.1 r.2).mpr z))) (fun q => kf ((iZ_eq r.1 r.2).mp q))
theorem z_if_ne (hx : p.tables.exec = Jvm.exec) (hb : c.code = cc) {off : Int} {tgt : Nat} (hdg : decode cc pc = .ok (.ifCond .ne off, 3)) (ht : (pc : Int) + off = (tgt : Int)) (r : zr a) (kt : a ≠ 0 → W p l e R s m args below meth c H locs cells slots Q (F0 m (tgt) ls (rest))) (kf : a = 0 → W p l e R s m args below meth c H locs cells slots Q (F0 m (pc + 3) ls (rest))) : W p l e R s m args below meth c H locs cells slots Q (F0 m (pc) ls (.int (iZ a) :: rest)) := lv_if_ne hx hb hdg ht (fun q => kt (fun z => q ((iZ_eq r zr_0).mpr z))) (fun q => kf ((iZ_eq r zr_0).mp q))
end ZROWS
section ZARR
variable {p : Program} {l : Launch} {e : Env} {R : Room} {s : State} {m : MethodId} {args : Array Value} {below : List Frame} {meth : Method} {c : Code} {H : Heap} {locs : List Loc} {cells slots : Nat} {Q : State → Prop}
variable {cc : ByteArray} {pc : Nat} {ls : Array Slot} {rest : List Value} {a b : Int}
variable {D : va_G} {cl : List vw_C} {A : Nat → Prop} {ad : Nat} {tys : List (ClassId × FieldType)} {ws : va_W} {H0 : Heap} {cA : ClassId} {n : Nat} {g : Nat → Int}
theorem z_iald (hx : p.tables.exec = Jvm.exec) (hb : c.code = cc) (hK : va_K D cl tys s) (hP : va_P D cl ws H) (q0 t0 : Nat) (ha : ws[q0]? = some (ad, .inl (cA, n, .inl (zA g)))) (ht : tys[t0]? = some (cA, .int)) (k0 : Nat) (hi : a = k0 ∧ k0 < n ∧ n ≤ 2147483647) (hdg : decode cc pc = .ok (.iaload, 1)) (k : W p l e R s m args below meth c H locs cells slots Q (F0 m (pc + 1) ls (.int (iZ (g k0)) :: rest))) : W p l e R s m args below meth c H locs cells slots Q (F0 m (pc) ls (.int (iZ a) :: .ref ad :: rest)) := va_iald hx hb hK hP q0 t0 ha ht (iZ_in (by omega) (by omega) (by omega)) hdg (by rw [iZ_cl (by omega) (by omega), hi.1]; exact k)
theorem z_bald (hx : p.tables.exec = Jvm.exec) (hb : c.code = cc) (hK : va_K D cl tys s) (hP : va_P D cl ws H) (q0 t0 : Nat) (ha : ws[q0]? = some (ad, .inl (cA, n, .inl (zA g)))) (ht : tys[t0]? = some (cA, .byte)) (k0 : Nat) (hi : a = k0 ∧ k0 < n ∧ n ≤ 2147483647) (hdg : decode cc pc = .ok (.baload, 1)) (k : W p l e R s m args below meth c H locs cells slots Q (F0 m (pc + 1) ls (.int (iZ (g k0)) :: rest))) : W p l e R s m args below meth c H locs cells slots Q (F0 m (pc) ls (.int (iZ a) :: .ref ad :: rest)) := va_bald hx hb hK hP q0 t0 ha ht (iZ_in (by omega) (by omega) (by omega)) hdg (by rw [iZ_cl (by omega) (by omega), hi.1]; exact k)
theorem z_iast (hx : p.tables.exec = Jvm.exec) (hb : c.code = cc) (hK : va_K D cl tys s) (hP : va_P D cl ws H) (hD : va_D A ws) (hS : va_S A H0 H locs) (q0 t0 : Nat) (ha : ws[q0]? = some (ad, .inl (cA, n, .inl (zA g)))) (ht : tys[t0]? = some (cA, .int)) (k0 : Nat) {x : Int} (hi : a = k0 ∧ k0 < n ∧ n ≤ 2147483647) (hdg : decode cc pc = .ok (.iastore, 1)) (k : ∀ (H1 : Heap) (locs1 : List Loc), va_P D cl (ws.set q0 (ad, .inl (cA, n, .inl (zA (zu g k0 x))))) H1 → va_D A (ws.set q0 (ad, .inl (cA, n, .inl (zA (zu g k0 x))))) → va_S A H0 H1 locs1 → W p l e R s m args below meth c H1 locs1 cells slots Q (F0 m (pc + 1) ls (rest))) : W p l e R s m args below meth c H locs cells slots Q (F0 m (pc) ls (.int (iZ x) :: .int (iZ a) :: .ref ad :: rest)) := by
  refine va_iast hx hb hK hP hD hS q0 t0 ha ht (iZ_in (by omega) (by omega) (by omega)) hdg (fun H1 locs1 h1 h2 h3 => ?_)
  rw [iZ_cl (by omega) (by omega), hi.1, Int.toNat_natCast, zA_u] at h1 h2
  exact k H1 locs1 h1 h2 h3
theorem z_bast (hx : p.tables.exec = Jvm.exec) (hb : c.code = cc) (hK : va_K D cl tys s) (hP : va_P D cl ws H) (hD : va_D A ws) (hS : va_S A H0 H locs) (q0 t0 : Nat) (ha : ws[q0]? = some (ad, .inl (cA, n, .inl (zA g)))) (ht : tys[t0]? = some (cA, .byte)) (k0 : Nat) {x : Int} (hi : a = k0 ∧ k0 < n ∧ n ≤ 2147483647) (hdg : decode cc pc = .ok (.bastore, 1)) (k : ∀ (H1 : Heap) (locs1 : List Loc), va_P D cl (ws.set q0 (ad, .inl (cA, n, .inl (zA (zu g k0 (x.bmod 256)))))) H1 → va_D A (ws.set q0 (ad, .inl (cA, n, .inl (zA (zu g k0 (x.bmod 256)))))) → va_S A H0 H1 locs1 → W p l e R s m args below meth c H1 locs1 cells slots Q (F0 m (pc + 1) ls (rest))) : W p l e R s m args below meth c H locs cells slots Q (F0 m (pc) ls (.int (iZ x) :: .int (iZ a) :: .ref ad :: rest)) := by
  refine va_bast hx hb hK hP hD hS q0 t0 ha ht (iZ_in (by omega) (by omega) (by omega)) hdg (fun H1 locs1 h1 h2 h3 => ?_)
  rw [iZ_cl (by omega) (by omega), hi.1, Int.toNat_natCast, iZ_narB, zA_u] at h1 h2
  exact k H1 locs1 h1 h2 h3
end ZARR
/-! contracts' forms, and calls: the words are the tables' own, the same list for every method; the links to private members of a nest mate stand in zK -/
def zT : List Cond := lw_tbl.filter goodWord
def z_isNest : Cond → Bool
  | .fieldLinkNest .. | .methodLinkNest .. => true
  | _ => false
theorem zT_of {w : Cond} (h : w ∈ lw_tbl) (hg : goodWord w = true) : w ∈ zT := List.mem_filter.mpr ⟨h, hg⟩
theorem zg_all : GoodIn zT zT := fun w hw => ⟨hw, good_of_word (List.mem_filter.mp hw).2⟩
theorem zg_code {cd : Cond} (h : cd ∈ zT) : GoodIn zT (cd :: zT) := fun w hw => by
  rcases List.mem_cons.mp hw with rfl | hw
  · exact zg_all _ h
  · exact zg_all _ hw
theorem zg_hts {cd : Cond} {args : Array Value} {s : State} (h : ∀ w ∈ cd :: zT, w.before args s = true) : ∀ w ∈ zT, w.before args s = true := fun w hw => h w (List.mem_cons_of_mem _ hw)
def zK (D : va_G) (cl : List vw_C) (tys : List (ClassId × FieldType)) (U : State) : Prop := va_K D cl tys U ∧ ∀ w ∈ lw_tbl, z_isNest w = true → va_Nw w U
theorem zK.moved {D : va_G} {cl : List vw_C} {tys : List (ClassId × FieldType)} {s U : State} (hW : s.WarmedH U.vm) (h : zK D cl tys s) : zK D cl tys U := by
  refine ⟨va_K.moved hW.alike h.1, fun w hw hn => ?_⟩
  have h0 := h.2 w hw hn
  cases w with
  | fieldLinkNest => exact va_Nw.warmF hW h0
  | methodLinkNest => exact va_Nw.warmM hW h0
  | _ => cases hn
theorem zK.calling {D : va_G} {cl : List vw_C} {tys : List (ClassId × FieldType)} {U : State} {g : JFrame} {mk : MethodId} {a : Array Value} (h : zK D cl tys U) : zK D cl tys (U.calling g mk a) := by
  refine ⟨va_K.moved (u := U) (U := U.calling g mk a) (Vm.Alike.refl U.vm) h.1, fun w hw hn => ?_⟩
  have h0 := h.2 w hw hn
  cases w with
  | fieldLinkNest => exact va_Nw.same rfl (rfl : U.vm = (U.calling g mk a).vm) h0
  | methodLinkNest => exact va_Nw.same rfl (rfl : U.vm = (U.calling g mk a).vm) h0
  | _ => cases hn
theorem zK.nest {D : va_G} {cl : List vw_C} {tys : List (ClassId × FieldType)} {U : State} (h : zK D cl tys U) {w : Cond} (hw : w ∈ lw_tbl) (hn : z_isNest w = true) : va_Nw w U := h.2 w hw hn
abbrev zPc (D : va_G) (cl : List vw_C) (tys : List (ClassId × FieldType)) (ws : va_W) (sz : Nat) (av : List Value) : Array Value → State → Prop := va_Pc av (fun U => U.heap.size = sz ∧ va_P D cl ws U.heap ∧ zK D cl tys U ∧ va_D (fun _ => True) ws)
abbrev zRc (D : va_G) (cl : List vw_C) (tys : List (ClassId × FieldType)) (ws : va_W) (av : List Value) : Array Value → State → Prop := va_Pc av (fun U => va_P D cl ws U.heap ∧ zK D cl tys U)
abbrev zFv {S : Type} (D : va_G) (cl : List vw_C) (post : S → Prop) (w1 : S → va_W) (A : Nat → Prop) : Array Value → State → Outcome → State → Prop := va_Qv post (fun u t => va_P D cl (w1 u) t.heap ∧ va_D A (w1 u)) A
abbrev zFi {S : Type} (D : va_G) (cl : List vw_C) (post : Int → S → Prop) (w1 : S → va_W) (A : Nat → Prop) : Array Value → State → Outcome → State → Prop := va_Qi (fun r u => ∃ z : Int, r = iZ z ∧ post z u) (fun u t => va_P D cl (w1 u) t.heap ∧ va_D A (w1 u)) A
abbrev zSi (post : Int → Prop) : Array Value → State → Outcome → State → Prop := vp_Si (fun r => ∃ z : Int, r = iZ z ∧ post z)
theorem z_blind {D : va_G} {cl : List vw_C} {tys : List (ClassId × FieldType)} {ws : va_W} {sz : Nat} {av : List Value} : FrameBlind (zPc D cl tys ws sz av) := fun a U g mk q => by
  obtain ⟨q0, q1, qP, qK, qD⟩ := q
  exact ⟨q0, q1, qP, qK.calling, qD⟩
theorem z_blindR {D : va_G} {cl : List vw_C} {tys : List (ClassId × FieldType)} {ws : va_W} {av : List Value} : FrameBlind (zRc D cl tys ws av) := fun a U g mk q => by
  obtain ⟨q0, qP, qK⟩ := q
  exact ⟨q0, qP, qK.calling⟩
section ZCALL
variable {p : Program} {l : Launch} {e : Env} {R : Room} {s : State} {m : MethodId} {args : Array Value} {below : List Frame} {meth : Method} {c : Code} {H : Heap} {locs : List Loc} {cells slots : Nat} {Q : State → Prop}
variable {D : va_G} {cl : List vw_C} {tys : List (ClassId × FieldType)} {ws wc wr : va_W} {A : Nat → Prop} {H0 : Heap} {As : List Value} {b ci : Nat} {q : vw_C} {fs : List Value}
theorem z_preV (hK : zK D cl tys s) (hP : va_P D cl ws H) (hD : va_D A ws) (is : List Nat) (hn : va_nd is = true) (h1 : is.filterMap (fun i => ws[i]?) = wc) (h2 : is.map (fun i => ws[i]?) = wc.map some) (hc : cl[ci]? = some q) (he : wc[0]? = some (b, .inr (ci, fs))) : PreV s H q.1 b (zPc D cl tys wc H.size (.ref b :: As)) As :=
  have hPc := hP.sub is h1
  have hDc := hD.sub is hn h2
  ⟨z_blind, va_recv hK.1 hPc hc he, fun _ hU hW => ⟨rfl, by rw [hU], by rw [hU]; exact hPc, hK.moved hW, hDc.weaken (fun _ _ _ _ => trivial)⟩⟩
theorem z_preS (hK : zK D cl tys s) (hP : va_P D cl ws H) (hD : va_D A ws) (is : List Nat) (hn : va_nd is = true) (h1 : is.filterMap (fun i => ws[i]?) = wc) (h2 : is.map (fun i => ws[i]?) = wc.map some) : PreS s H (zPc D cl tys wc H.size As) As :=
  have hPc := hP.sub is h1
  have hDc := hD.sub is hn h2
  ⟨z_blind, fun _ hU hW => ⟨rfl, by rw [hU], by rw [hU]; exact hPc, hK.moved hW, hDc.weaken (fun _ _ _ _ => trivial)⟩⟩
theorem z_preVR (hK : zK D cl tys s) (hP : va_P D cl ws H) (is : List Nat) (h1 : is.filterMap (fun i => ws[i]?) = wc) (hc : cl[ci]? = some q) (he : wc[0]? = some (b, .inr (ci, fs))) : PreV s H q.1 b (zRc D cl tys wc (.ref b :: As)) As :=
  have hPc := hP.sub is h1
  ⟨z_blindR, va_recv hK.1 hPc hc he, fun _ hU hW => ⟨rfl, by rw [hU]; exact hPc, hK.moved hW⟩⟩
theorem z_preSR (hK : zK D cl tys s) (hP : va_P D cl ws H) (is : List Nat) (h1 : is.filterMap (fun i => ws[i]?) = wc) : PreS s H (zRc D cl tys wc As) As :=
  have hPc := hP.sub is h1
  ⟨z_blindR, fun _ hU hW => ⟨rfl, by rw [hU]; exact hPc, hK.moved hW⟩⟩
variable {pc mc ms : Nat} {ls : Array Slot} {rest st0 : List Value} {a : Array Value} {S : Type}
theorem z_backv {post : S → Prop} {w1 : S → va_W} (hP : va_P D cl ws H) (hD : va_D A ws) (hS : va_S A H0 H locs) (hA : ∀ q, H0.size ≤ q → A q) (isC isR : List Nat) (hC : isC.map (fun i => ws[i]?) = wc.map some) (hR : isR.map (fun i => ws[i]?) = wr.map some) (hn : va_nd isR = true) (hdis : ∀ i ∈ isR, i ∉ isC)
    (hr : va_Run p l e R s m args below meth c H locs cells slots mc ms (F0 m pc ls st0) rest (zFv D cl post w1 (va_A wc H.size) a) (va_A wc H.size))
    (kk : ∀ (u : S) (H1 : Heap) (locs1 : List Loc), post u → va_P D cl (wr ++ w1 u) H1 → va_D A (wr ++ w1 u) → va_S A H0 H1 locs1 → W p l e R s m args below meth c H1 locs1 (cells + mc) (slots + ms) Q (F0 m (pc + 3) ls rest)) : W p l e R s m args below meth c H locs cells slots Q (F0 m pc ls st0) := by
  have hF := va_free hD hS hA isC hC
  refine va_callv hr hS (fun q _ h => hF q h) hF (fun u t H1 locs1 ht hvm hw hB hz1 hk1 hS1 => ?_)
  obtain ⟨hP1, hD1⟩ := hB
  rw [ht] at hP1
  obtain ⟨hP2, hD2⟩ := va_join hP hD isC isR hC hR hn hdis hk1 hF hP1 hD1
  exact kk u H1 locs1 hw hP2 hD2 hS1
theorem z_backi {post : Int → S → Prop} {w1 : S → va_W} (hP : va_P D cl ws H) (hD : va_D A ws) (hS : va_S A H0 H locs) (hA : ∀ q, H0.size ≤ q → A q) (isC isR : List Nat) (hC : isC.map (fun i => ws[i]?) = wc.map some) (hR : isR.map (fun i => ws[i]?) = wr.map some) (hn : va_nd isR = true) (hdis : ∀ i ∈ isR, i ∉ isC)
    (hr : va_Run p l e R s m args below meth c H locs cells slots mc ms (F0 m pc ls st0) rest (zFi D cl post w1 (va_A wc H.size) a) (va_A wc H.size))
    (kk : ∀ (z : Int) (u : S) (H1 : Heap) (locs1 : List Loc), post z u → va_P D cl (wr ++ w1 u) H1 → va_D A (wr ++ w1 u) → va_S A H0 H1 locs1 → W p l e R s m args below meth c H1 locs1 (cells + mc) (slots + ms) Q (F0 m (pc + 3) ls (.int (iZ z) :: rest))) : W p l e R s m args below meth c H locs cells slots Q (F0 m pc ls st0) := by
  have hF := va_free hD hS hA isC hC
  refine va_calli hr hS (fun q _ h => hF q h) hF (fun r u t H1 locs1 ht hvm hw hB hz1 hk1 hS1 => ?_)
  obtain ⟨hP1, hD1⟩ := hB
  rw [ht] at hP1
  obtain ⟨hP2, hD2⟩ := va_join hP hD isC isR hC hR hn hdis hk1 hF hP1 hD1
  obtain ⟨z, rfl, hz⟩ := hw
  exact kk z u H1 locs1 hz hP2 hD2 hS1
theorem z_backr {post : Int → Prop} (hr : va_Run p l e R s m args below meth c H locs cells slots 0 0 (F0 m pc ls st0) rest (zSi post a) (fun _ => False))
    (kk : ∀ z : Int, post z → W p l e R s m args below meth c H locs cells slots Q (F0 m (pc + 3) ls (.int (iZ z) :: rest))) : W p l e R s m args below meth c H locs cells slots Q (F0 m pc ls st0) := by
  refine vp_callSi hr.run (fun r hp => ?_)
  obtain ⟨z, rfl, hz⟩ := hp
  exact kk z hz
end ZCALL
section ZCW
variable {R : Room} {s : State} {args : Array Value} {own C host : String} {index maxL mc ms : Nat} {y : MethodName} {bytes : ByteArray} {ret : Option FieldType} {rm : Room}
theorem zc_V (n : Nat) (ht : ∀ w ∈ zT, w.before args s = true) (hcd : Cond.code y bytes maxL ret ∈ zT) (hlk : Cond.methodLink own index y ∈ zT) (him : Cond.instanceMethod y ∈ zT) (hse : Cond.selects C y y ∈ zT) (hin : Cond.initialized y.cls ∈ zT)
    (hd : y.cls ≠ "java/lang/invoke/MethodHandle" ∧ y.cls ≠ "java/lang/invoke/VarHandle" ∧ (parseMethodDescriptor y.desc).map (fun d => d.parameters.length) = some n) (hR : rm.frames + 1 ≤ R.frames ∧ 8 + (maxL + 11) + rm.locals ≤ R.locals) (hrc : rm.cells = mc) (hrs : rm.slots = ms) :
    CallW R s args own C index y bytes maxL ret (Cond.code y bytes maxL ret :: zT) rm mc ms n :=
  ⟨callB_of n ht (zg_code hcd) rfl hrc hrs (ht _ hin) (ht _ hlk) hd hR, ht _ him, ht _ hse⟩
theorem zc_S (n : Nat) (ht : ∀ w ∈ zT, w.before args s = true) (hcd : Cond.code y bytes maxL ret ∈ zT) (hlk : Cond.methodLink own index y ∈ zT) (hst : Cond.static y ∈ zT) (hin : Cond.initialized y.cls ∈ zT)
    (hd : y.cls ≠ "java/lang/invoke/MethodHandle" ∧ y.cls ≠ "java/lang/invoke/VarHandle" ∧ (parseMethodDescriptor y.desc).map (fun d => d.parameters.length) = some n) (hR : rm.frames + 1 ≤ R.frames ∧ 8 + (maxL + 11) + rm.locals ≤ R.locals) (hrc : rm.cells = mc) (hrs : rm.slots = ms) :
    CallB R s args own index y bytes maxL ret (Cond.code y bytes maxL ret :: zT) rm mc ms n ∧ (Cond.static y).before args s = true :=
  ⟨callB_of n ht (zg_code hcd) rfl hrc hrs (ht _ hin) (ht _ hlk) hd hR, ht _ hst⟩
theorem zc_I (n : Nat) (ht : ∀ w ∈ zT, w.before args s = true) (hcd : Cond.code y bytes maxL none ∈ zT) (hlk : Cond.methodLink own index y ∈ zT) (him : Cond.instanceMethod y ∈ zT) (hin : Cond.initialized y.cls ∈ zT) (hy : y.name = "<init>")
    (hd : y.cls ≠ "java/lang/invoke/MethodHandle" ∧ y.cls ≠ "java/lang/invoke/VarHandle" ∧ (parseMethodDescriptor y.desc).map (fun d => d.parameters.length) = some n) (hR : rm.frames + 1 ≤ R.frames ∧ 8 + (maxL + 11) + rm.locals ≤ R.locals) (hrc : rm.cells = mc) (hrs : rm.slots = ms) :
    CallB R s args own index y bytes maxL none (Cond.code y bytes maxL none :: zT) rm mc ms n ∧ y.name = "<init>" ∧ (Cond.instanceMethod y).before args s = true :=
  ⟨callB_of n ht (zg_code hcd) rfl hrc hrs (ht _ hin) (ht _ hlk) hd hR, hy, ht _ him⟩
theorem zc_SN (n : Nat) (ht : ∀ w ∈ zT, w.before args s = true) (hcd : Cond.code y bytes maxL ret ∈ zT) (hlk : va_Nw (.methodLinkNest own index y host) s) (hst : Cond.static y ∈ zT) (hin : Cond.initialized y.cls ∈ zT)
    (hd : y.cls ≠ "java/lang/invoke/MethodHandle" ∧ y.cls ≠ "java/lang/invoke/VarHandle" ∧ (parseMethodDescriptor y.desc).map (fun d => d.parameters.length) = some n) (hR : rm.frames + 1 ≤ R.frames ∧ 8 + (maxL + 11) + rm.locals ≤ R.locals) (hrc : rm.cells = mc) (hrs : rm.slots = ms) :
    va_CN R s args own index y host bytes maxL ret (Cond.code y bytes maxL ret :: zT) rm mc ms n ∧ (Cond.static y).before args s = true ∧ True :=
  ⟨va_cnB n ht (zg_code hcd) rfl hrc hrs hlk (ht _ hin) hd hR, ht _ hst, trivial⟩
theorem zc_IN (n : Nat) (ht : ∀ w ∈ zT, w.before args s = true) (hcd : Cond.code y bytes maxL none ∈ zT) (hlk : va_Nw (.methodLinkNest own index y host) s) (him : Cond.instanceMethod y ∈ zT) (hin : Cond.initialized y.cls ∈ zT) (hy : y.name = "<init>")
    (hd : y.cls ≠ "java/lang/invoke/MethodHandle" ∧ y.cls ≠ "java/lang/invoke/VarHandle" ∧ (parseMethodDescriptor y.desc).map (fun d => d.parameters.length) = some n) (hR : rm.frames + 1 ≤ R.frames ∧ 8 + (maxL + 11) + rm.locals ≤ R.locals) (hrc : rm.cells = mc) (hrs : rm.slots = ms) :
    va_CN R s args own index y host bytes maxL none (Cond.code y bytes maxL none :: zT) rm mc ms n ∧ y.name = "<init>" ∧ (Cond.instanceMethod y).before args s = true :=
  ⟨va_cnB n ht (zg_code hcd) rfl hrc hrs hlk (ht _ hin) hd hR, hy, ht _ him⟩
theorem zc_VN (n : Nat) (ht : ∀ w ∈ zT, w.before args s = true) (hcd : Cond.code y bytes maxL ret ∈ zT) (hlk : va_Nw (.methodLinkNest own index y host) s) (him : Cond.instanceMethod y ∈ zT) (hse : Cond.selects C y y ∈ zT) (hin : Cond.initialized y.cls ∈ zT)
    (hd : y.cls ≠ "java/lang/invoke/MethodHandle" ∧ y.cls ≠ "java/lang/invoke/VarHandle" ∧ (parseMethodDescriptor y.desc).map (fun d => d.parameters.length) = some n) (hR : rm.frames + 1 ≤ R.frames ∧ 8 + (maxL + 11) + rm.locals ≤ R.locals) (hrc : rm.cells = mc) (hrs : rm.slots = ms) :
    va_CN R s args own index y host bytes maxL ret (Cond.code y bytes maxL ret :: zT) rm mc ms n ∧ (Cond.instanceMethod y).before args s = true ∧ (Cond.selects C y y).before args s = true :=
  ⟨va_cnB n ht (zg_code hcd) rfl hrc hrs hlk (ht _ hin) hd hR, ht _ him, ht _ hse⟩
end ZCW
/-! a contract's beginning and its end -/
abbrev zE (p : Program) (s : State) (m : MethodId) (args : Array Value) (meth : Method) (c : Code) (own : String) (cc : ByteArray) (maxL : Nat) (ret : Option FieldType) : Prop := p.tables.exec = Jvm.exec ∧ c.code = cc ∧ meth.sig.returnType = ret ∧ c.maxLocals = maxL ∧ s.vm.findClass own = some m.cls ∧ (∀ w ∈ zT, w.before args s = true) ∧ meth.locks = false
section ZOF
variable {l : Launch} {y : MethodName} {cc : ByteArray} {maxL : Nat} {ret : Option FieldType} {rm : Room} {D : va_G} {cl : List vw_C} {tys : List (ClassId × FieldType)} {ws : va_W} {sz : Nat} {av : List Value} {mc ms : Nat} {S : Type}
theorem z_nb {z : Int} (h : z = 0 ∨ z = 1) : narrow .boolean (.int (iZ z)) = .int (iZ z) := by rcases h with rfl | rfl <;> rfl
/-- a method that answers nothing: its body, with any end Q that a return in the right world reaches -/
theorem z_ofv {post : S → Prop} {w1 : S → va_W} (hy : plainName y.cls = true) (hlen : (lg_sl av).length ≤ maxL) (hret : ret = none)
    (body : ∀ (p : Program) (e : Env) (s : State) (m : MethodId) (args : Array Value) (below : List Frame) (meth : Method) (c : Code) (A : Nat → Prop) (Q : State → Prop), zE p s m args meth c y.cls cc maxL ret → (meth.name = y.name) → (∀ q : Nat, s.heap.size ≤ q → A q) → zK D cl tys s →
      (∀ (H : Heap) (locs : List Loc) (u : S) (ls : Array Slot) (pc : Nat), post u → va_P D cl (w1 u) H → va_D A (w1 u) → va_S A s.heap H locs → decode cc pc = .ok (.return_, 1) → W p l e rm s m args below meth c H locs mc ms Q (F0 m pc ls [])) →
      ∀ (H : Heap) (locs : List Loc), va_P D cl ws H → va_D A ws → va_S A s.heap H locs → ∀ ls : Array Slot, lv_has ls maxL (lv_args 0 av) → W p l e rm s m args below meth c H locs 0 0 Q (F0 m 0 ls [])) :
    Met l y (.code y cc maxL ret :: zT) rm (zPc D cl tys ws sz av) (zFv D cl post w1 (va_A ws sz)) mc ms (va_A ws sz) := by
  refine Met.ofW (cc := cc) (maxL := maxL) (ret := ret) hy rfl ?_
  intro p e s m args below meth c s₁ B hml hv
  obtain ⟨rfl, hsz, hP, hK, hD0⟩ := hv
  subst hsz
  rw [lg_entry_eq]
  refine body p e s m _ below meth c _ _ ⟨B.exec, B.bytes, B.returns, hml, findClass_of_methodNamed B.named, zg_hts (atoms_spec (ws := .code y cc maxL ret :: zT) B.pre), B.notSynchronized⟩ (name_of_methodNamed B.named B.method).1 (fun q h => Or.inr h) hK ?_ _ _ hP (hD0.self) va_S.rf _ (lv_entry av hlen)
  intro H locs u ls pc hp hP1 hD1 hS1 hdg
  exact W.vret B.exec B.bytes (B.returns.trans hret) (fun _ ht _ => ⟨⟨u, rfl, hp, by rw [ht]; exact hP1, hD1⟩, hS1.F ht⟩) hS1.2.2 hdg B.notSynchronized
/-- a method that answers an int or a boolean -/
theorem z_ofi {post : Int → S → Prop} {w1 : S → va_W} (hy : plainName y.cls = true) (hlen : (lg_sl av).length ≤ maxL) (hret : ret = some .int ∨ ret = some .boolean)
    (body : ∀ (p : Program) (e : Env) (s : State) (m : MethodId) (args : Array Value) (below : List Frame) (meth : Method) (c : Code) (A : Nat → Prop) (Q : State → Prop), zE p s m args meth c y.cls cc maxL ret → (∀ q : Nat, s.heap.size ≤ q → A q) → zK D cl tys s →
      (∀ (H : Heap) (locs : List Loc) (z : Int) (u : S) (ls : Array Slot) (pc : Nat), (ret = some .int ∨ z = 0 ∨ z = 1) → post z u → va_P D cl (w1 u) H → va_D A (w1 u) → va_S A s.heap H locs → decode cc pc = .ok (.ireturn, 1) → W p l e rm s m args below meth c H locs mc ms Q (F0 m pc ls [.int (iZ z)])) →
      ∀ (H : Heap) (locs : List Loc), va_P D cl ws H → va_D A ws → va_S A s.heap H locs → ∀ ls : Array Slot, lv_has ls maxL (lv_args 0 av) → W p l e rm s m args below meth c H locs 0 0 Q (F0 m 0 ls [])) :
    Met l y (.code y cc maxL ret :: zT) rm (zPc D cl tys ws sz av) (zFi D cl post w1 (va_A ws sz)) mc ms (va_A ws sz) := by
  refine Met.ofW (cc := cc) (maxL := maxL) (ret := ret) hy rfl ?_
  intro p e s m args below meth c s₁ B hml hv
  obtain ⟨rfl, hsz, hP, hK, hD0⟩ := hv
  subst hsz
  rw [lg_entry_eq]
  refine body p e s m _ below meth c _ _ ⟨B.exec, B.bytes, B.returns, hml, findClass_of_methodNamed B.named, zg_hts (atoms_spec (ws := .code y cc maxL ret :: zT) B.pre), B.notSynchronized⟩ (fun q h => Or.inr h) hK ?_ _ _ hP (hD0.self) va_S.rf _ (lv_entry av hlen)
  intro H locs z u ls pc hz hp hP1 hD1 hS1 hdg
  rcases hret with hret | hret
  · exact W.iret B.exec B.bytes (B.returns.trans hret) (fun _ ht _ => ⟨⟨iZ z, u, rfl, ⟨z, rfl, hp⟩, by rw [ht]; exact hP1, hD1⟩, hS1.F ht⟩) hS1.2.2 hdg B.notSynchronized
  · exact W.zret B.exec B.bytes (B.returns.trans hret) (z_nb (hz.resolve_left (by rw [hret]; decide))) (fun _ ht _ => ⟨⟨iZ z, u, rfl, ⟨z, rfl, hp⟩, by rw [ht]; exact hP1, hD1⟩, hS1.F ht⟩) hS1.2.2 hdg B.notSynchronized
/-- .. that changes nothing -/
theorem z_ofr {post : Int → Prop} (hy : plainName y.cls = true) (hlen : (lg_sl av).length ≤ maxL) (hret : ret = some .int ∨ ret = some .boolean)
    (body : ∀ (p : Program) (e : Env) (s : State) (m : MethodId) (args : Array Value) (below : List Frame) (meth : Method) (c : Code) (Q : State → Prop), zE p s m args meth c y.cls cc maxL ret → va_P D cl ws s.heap → zK D cl tys s →
      (∀ (z : Int) (ls : Array Slot) (pc : Nat), (ret = some .int ∨ z = 0 ∨ z = 1) → post z → decode cc pc = .ok (.ireturn, 1) → W p l e rm s m args below meth c s.heap [] 0 0 Q (F0 m pc ls [.int (iZ z)])) →
      ∀ ls : Array Slot, lv_has ls maxL (lv_args 0 av) → W p l e rm s m args below meth c s.heap [] 0 0 Q (F0 m 0 ls [])) :
    Met l y (.code y cc maxL ret :: zT) rm (zRc D cl tys ws av) (zSi post) 0 0 (fun _ => False) := by
  refine Met.ofW (cc := cc) (maxL := maxL) (ret := ret) hy rfl ?_
  intro p e s m args below meth c s₁ B hml hv
  obtain ⟨rfl, hP, hK⟩ := hv
  rw [lg_entry_eq]
  refine body p e s m _ below meth c _ ⟨B.exec, B.bytes, B.returns, hml, findClass_of_methodNamed B.named, zg_hts (atoms_spec (ws := .code y cc maxL ret :: zT) B.pre), B.notSynchronized⟩ hP hK ?_ _ (lv_entry av hlen)
  intro z ls pc hz hp hdg
  rcases hret with hret | hret
  · exact W.iret B.exec B.bytes (B.returns.trans hret) (fun _ ht _ => ⟨iZ z, rfl, ⟨z, rfl, hp⟩, ht⟩) (fun _ h => by cases h) hdg B.notSynchronized
  · exact W.zret B.exec B.bytes (B.returns.trans hret) (z_nb (hz.resolve_left (by rw [hret]; decide))) (fun _ ht _ => ⟨iZ z, rfl, ⟨z, rfl, hp⟩, ht⟩) (fun _ h => by cases h) hdg B.notSynchronized
end ZOF
theorem z_fitB {a : Int} (h : -128 ≤ a ∧ a < 128) : fits .byte (.int (iZ a)) = true := by
  have e : iZ a = (iZ a).toInt8.toInt32 := by
    rw [iZ_i2b]
    congr 1
    rw [Int.bmod_def]
    split <;> omega
  rw [e]
  exact pk_fb _
section ZCOPY
variable {p : Program} {l : Launch} {e : Env} {R : Room} {s : State} {m : MethodId} {args : Array Value} {below : List Frame} {meth : Method} {c : Code} {H : Heap} {locs : List Loc} {cells slots : Nat} {Q : State → Prop}
variable {cc : ByteArray} {pc : Nat} {ls : Array Slot} {rest : List Value} {D : va_G} {cl : List vw_C} {A : Nat → Prop} {a0 a1 : Nat} {tys : List (ClassId × FieldType)} {ws : va_W} {H0 : Heap} {cA : ClassId} {f g : Nat → Int}
theorem z_copyB (hx : p.tables.exec = Jvm.exec) (hb : c.code = cc) (hml : c.maxLocals = ls.size) {own : String} {index : Nat} (hown : s.vm.findClass own = some m.cls) (hlink : (Cond.methodLink own index arraycopyName).before args s = true) (hnat : (Cond.native arraycopyName).before args s = true) (hstat : (Cond.static arraycopyName).before args s = true) (hini : (Cond.initialized "java/lang/System").before args s = true)
    (hK : va_K D cl tys s) (hP : va_P D cl ws H) (hD : va_D A ws) (hS : va_S A H0 H locs) (q0 q1 t0 : Nat) (ha0 : ws[q0]? = some (a0, .inl (cA, 6000, .inl (zA f)))) (ha1 : ws[q1]? = some (a1, .inl (cA, 6000, .inl (zA g)))) (ht : tys[t0]? = some (cA, .byte)) (hf : ∀ k, -128 ≤ f k ∧ f k < 128)
    (hframes : 1 ≤ R.frames) (hlocals : (rest.map fun v => v.category).sum + (nativeFrameWords "java/lang/System" "arraycopy" 5 + 11) ≤ R.locals) (hdg : decode cc pc = .ok (.invokestatic index, 3))
    (kk : ∀ (H1 : Heap) (locs1 : List Loc), va_P D cl (ws.set q1 (a1, .inl (cA, 6000, .inl (zA (fun k => if k < 6000 then f k else g k))))) H1 → va_D A (ws.set q1 (a1, .inl (cA, 6000, .inl (zA (fun k => if k < 6000 then f k else g k))))) → va_S A H0 H1 locs1 → W p l e R s m args below meth c H1 locs1 cells slots Q (F0 m (pc + 3) ls rest)) :
    W p l e R s m args below meth c H locs cells slots Q (F0 m pc ls (.int (iZ 6000) :: .int (iZ 0) :: .ref a1 :: .int (iZ 0) :: .ref a0 :: rest)) := by
  have e0 : (iZ 0).toNatClampNeg = 0 := by decide
  have e6 : (iZ 6000).toNatClampNeg = 6000 := by decide
  have ec : va_cpy (zA f) (zA g) 0 0 6000 = zA (fun k => if k < 6000 then f k else g k) := by
    funext k
    show (if 0 ≤ k ∧ k < 0 + 6000 then iZ (f (0 + (k - 0))) else iZ (g k)) = iZ (if k < 6000 then f k else g k)
    by_cases hk : k < 6000
    · simp [hk]
    · simp [hk]
  refine va_copyi hx hb hml hown hlink hnat hstat hini hK hP hD hS q0 q1 t0 t0 ha0 ha1 ht ht rfl (by decide) (by decide) (by decide) (by rw [e0, e6]; decide) (by rw [e0, e6]; decide) (fun i _ => z_fitB (hf _)) hframes hlocals hdg (fun H1 locs1 h1 h2 h3 => ?_)
  rw [e0, e6, ec] at h1 h2
  exact kk H1 locs1 h1 h2 h3
end ZCOPY
/-! longs, switches, new arrays -/
theorem lZ_sh : ∀ n : Fin 64, (((iZ (n : Nat)).toInt64 &&& 63).toBitVec.smod 64).toNat = (n : Nat) := by decide +kernel
theorem lZ_shr (x : Int64) {n : Nat} (hn : n < 64) : (x >>> ((iZ n).toInt64 &&& 63)).toInt = x.toInt / 2 ^ n := by
  show (x.toBitVec.sshiftRight (((iZ n).toInt64 &&& 63).toBitVec.smod 64).toNat).toInt = _
  rw [lZ_sh ⟨n, hn⟩, BitVec.toInt_sshiftRight, Int.shiftRight_eq_div_pow, Int.natCast_pow]
  rfl
section ZLONG
variable {p : Program} {l : Launch} {e : Env} {R : Room} {s : State} {m : MethodId} {args : Array Value} {below : List Frame} {meth : Method} {c : Code} {H : Heap} {locs : List Loc} {cells slots : Nat} {Q : State → Prop}
variable {cc : ByteArray} {pc : Nat} {ls : Array Slot} {rest : List Value} {a : Int} {x : Int64}
theorem z_lshr (hx : p.tables.exec = Jvm.exec) (hb : c.code = cc) (hdg : decode cc pc = .ok (.lshr, 1)) (n : Nat) (h : a = n ∧ n < 64)
    (k : ∀ v : Int64, v.toInt = x.toInt / 2 ^ n → W p l e R s m args below meth c H locs cells slots Q (F0 m (pc + 1) ls (.long v :: rest))) : W p l e R s m args below meth c H locs cells slots Q (F0 m pc ls (.int (iZ a) :: .long x :: rest)) := by
  obtain ⟨rfl, h2⟩ := h
  exact lv_lshr hx hb hdg rfl (k _ (lZ_shr x h2))
theorem z_l2i (hx : p.tables.exec = Jvm.exec) (hb : c.code = cc) (hdg : decode cc pc = .ok (.l2i, 1))
    (k : W p l e R s m args below meth c H locs cells slots Q (F0 m (pc + 1) ls (.int (iZ x.toInt) :: rest))) : W p l e R s m args below meth c H locs cells slots Q (F0 m pc ls (.long x :: rest)) := lv_l2i hx hb hdg rfl k
theorem z_tableOut (hx : p.tables.exec = Jvm.exec) (hb : c.code = cc) {dflt lo hi : Int} {offs : Array Int} {len tgt : Nat} (hdg : decode cc pc = .ok (.tableswitch dflt lo hi offs, len)) (hr : zr a) (h : a < lo ∨ hi < a) (ht : (pc : Int) + dflt = (tgt : Int))
    (k : W p l e R s m args below meth c H locs cells slots Q (F0 m tgt ls rest)) : W p l e R s m args below meth c H locs cells slots Q (F0 m pc ls (.int (iZ a) :: rest)) := lv_tableOut hx hb hdg (by rw [iZ_toInt hr.1 hr.2]; exact h) ht k
theorem z_tableIn (hx : p.tables.exec = Jvm.exec) (hb : c.code = cc) {dflt lo hi : Int} {offs : Array Int} {len tgt : Nat} {off : Int} (hdg : decode cc pc = .ok (.tableswitch dflt lo hi offs, len)) (v : Int) (h : a = v) (hr : zr v) (h1 : ¬ v < lo) (h2 : ¬ hi < v) (ho : offs[(v - lo).toNat]? = some off) (ht : (pc : Int) + off = (tgt : Int))
    (k : W p l e R s m args below meth c H locs cells slots Q (F0 m tgt ls rest)) : W p l e R s m args below meth c H locs cells slots Q (F0 m pc ls (.int (iZ a) :: rest)) := by
  subst h
  exact lv_tableIn hx hb hdg (by rw [iZ_toInt hr.1 hr.2]; exact h1) (by rw [iZ_toInt hr.1 hr.2]; exact h2) (by rw [iZ_toInt hr.1 hr.2]; exact ho) ht k
end ZLONG
/-- a byte of a long -/
def wbyte (x : Int64) (i : Nat) : Int := (x.toInt / 2 ^ (8 * i)) % 256
theorem wbyte_lo (x : Int64) (i : Nat) : 0 ≤ wbyte x i := by unfold wbyte; omega
theorem wbyte_hi (x : Int64) (i : Nat) : wbyte x i < 256 := by unfold wbyte; omega
section ZNEW
variable {p : Program} {l : Launch} {e : Env} {R : Room} {s : State} {m : MethodId} {args : Array Value} {below : List Frame} {meth : Method} {c : Code} {H : Heap} {locs : List Loc} {cells slots : Nat} {Q : State → Prop}
variable {cc : ByteArray} {pc : Nat} {ls : Array Slot} {rest : List Value} {D : va_G} {cl : List vw_C} {A : Nat → Prop} {tys : List (ClassId × FieldType)} {ws : va_W} {H0 : Heap} {a : Int}
theorem z_RA {U : State} {cA cB : ClassId} {ty : FieldType} (hp : refKind ty = false) (h1 : va_RA U cA ty) (h2 : va_RA U cB ty) : cA = cB := by
  cases ty <;> first | (simp [refKind] at hp; done) | exact Option.some.inj ((show U.vm.findClass _ = some cA from h1).symm.trans (show U.vm.findClass _ = some cB from h2))
theorem z_newa (hx : p.tables.exec = Jvm.exec) (hb : c.code = cc) {atype : ArrayType} (harr : (Cond.arrayClass (newarray.typeOf atype)).before args s = true) {ty : FieldType} (hty : newarray.typeOf atype = ty) (hp : refKind ty = false) (hd : defaultValue ty = .int (iZ 0)) (hK : va_K D cl tys s) (hP : va_P D cl ws H) (hD : va_D A ws) (hS : va_S A H0 H locs) (hA : ∀ q, H0.size ≤ q → A q)
    (t0 : Nat) {cI : ClassId} (ht : tys[t0]? = some (cI, ty)) (N : Nat) (hn : a = N ∧ N < 1000000) (hcells : cells + 1 ≤ R.cells) (hslots : slots + N ≤ R.slots) (hdg : decode cc pc = .ok (.newarray atype, 2))
    (kk : ∀ (q : Nat) (H1 : Heap), va_P D cl (ws ++ [(q, .inl (cI, N, .inl (zA (fun _ => 0))))]) H1 → va_D A (ws ++ [(q, .inl (cI, N, .inl (zA (fun _ => 0))))]) → va_S A H0 H1 locs →
      W p l e R s m args below meth c H1 locs (cells + 1) (slots + N) Q (F0 m (pc + 2) ls (.ref q :: rest))) : W p l e R s m args below meth c H locs cells slots Q (F0 m pc ls (.int (iZ a) :: rest)) := by
  obtain ⟨rfl, hN⟩ := hn
  have hb8 : componentBytes ty ≤ 8 := by cases ty <;> simp [componentBytes]
  refine va_newa hx hb harr hty hK hP hD hS hA (N' := N) (a0 := (N, .inl (zA (fun _ => 0)))) (fun cA => ?_) ?_ ?_ ?_ hcells hslots hdg (fun q cA H1 hK1 hP1 hD1 hS1 => ?_)
  · rw [vp_cell_i, hd]
    rfl
  · intro h
    exact absurd ((iZ_lt ⟨by omega, by omega⟩ zr_0).mp h) (by omega)
  · rw [iZ_cl (by omega) (by omega)]
    rfl
  · have := Nat.mul_le_mul (Nat.le_of_lt hN) hb8
    omega
  · have e1 : va_RA s cA ty := (hK1.2 tys.length (cA, ty) (by simp)).2
    have e2 : va_RA s cI ty := (hK.2 t0 (cI, ty) ht).2
    obtain rfl := z_RA hp e1 e2
    exact kk q H1 hP1 hD1 hS1
end ZNEW
section ZDET
variable {p : Program} {l : Launch} {e : Env} {R : Room} {s : State} {m : MethodId} {args : Array Value} {below : List Frame} {meth : Method} {c : Code} {H : Heap} {locs : List Loc} {cells slots : Nat} {Q : State → Prop}
variable {D : va_G} {cl : List vw_C} {ws wc wr : va_W} {A : Nat → Prop} {H0 : Heap} {pc mc ms : Nat} {ls : Array Slot} {rest st0 : List Value} {a : Array Value} {S : Type}
/-- a call whose answer is known -/
theorem z_backe {v : Int} (hr : va_Run p l e R s m args below meth c H locs cells slots 0 0 (F0 m pc ls st0) rest (zSi (fun z => z = v) a) (fun _ => False))
    (kk : W p l e R s m args below meth c H locs cells slots Q (F0 m (pc + 3) ls (.int (iZ v) :: rest))) : W p l e R s m args below meth c H locs cells slots Q (F0 m pc ls st0) :=
  z_backr hr (fun _ hz => hz ▸ kk)
theorem z_backie {v : Int} {w1 : S → va_W} (hP : va_P D cl ws H) (hD : va_D A ws) (hS : va_S A H0 H locs) (hA : ∀ q, H0.size ≤ q → A q) (isC isR : List Nat) (hC : isC.map (fun i => ws[i]?) = wc.map some) (hR : isR.map (fun i => ws[i]?) = wr.map some) (hn : va_nd isR = true) (hdis : ∀ i ∈ isR, i ∉ isC)
    (hr : va_Run p l e R s m args below meth c H locs cells slots mc ms (F0 m pc ls st0) rest (zFi D cl (fun z _ => z = v) w1 (va_A wc H.size) a) (va_A wc H.size))
    (kk : ∀ (u : S) (H1 : Heap) (locs1 : List Loc), va_P D cl (wr ++ w1 u) H1 → va_D A (wr ++ w1 u) → va_S A H0 H1 locs1 → W p l e R s m args below meth c H1 locs1 (cells + mc) (slots + ms) Q (F0 m (pc + 3) ls (.int (iZ v) :: rest))) : W p l e R s m args below meth c H locs cells slots Q (F0 m pc ls st0) :=
  z_backi hP hD hS hA isC isR hC hR hn hdis hr (fun _ u H1 locs1 hz h1 h2 h3 => hz ▸ kk u H1 locs1 h1 h2 h3)
end ZDET
theorem i_Row_0 : u_lay R_Row F_Row 0 ∈ zT := zT_of (List.mem_of_getElem? (i := 67) (by decide +kernel)) rfl
theorem i_Row_1 : u_lay R_Row F_Row 1 ∈ zT := zT_of (List.mem_of_getElem? (i := 69) (by decide +kernel)) rfl
theorem i_Row_2 : u_lay R_Row F_Row 2 ∈ zT := zT_of (List.mem_of_getElem? (i := 71) (by decide +kernel)) rfl
theorem i_Row_3 : u_lay R_Row F_Row 3 ∈ zT := zT_of (List.mem_of_getElem? (i := 73) (by decide +kernel)) rfl
theorem i_Row_4 : u_lay R_Row F_Row 4 ∈ zT := zT_of (List.mem_of_getElem? (i := 75) (by decide +kernel)) rfl
theorem i_Row_5 : u_lay R_Row F_Row 5 ∈ zT := zT_of (List.mem_of_getElem? (i := 77) (by decide +kernel)) rfl
theorem i_Row_6 : u_lay R_Row F_Row 6 ∈ zT := zT_of (List.mem_of_getElem? (i := 79) (by decide +kernel)) rfl
theorem i_Row : ∀ w ∈ u_ws R_Row F_Row 7, w ∈ zT := by
  intro w hw
  obtain ⟨k, hk, rfl⟩ := List.mem_map.mp hw
  have hk := List.mem_range.mp hk
  rcases (show k = 0 ∨ k = 1 ∨ k = 2 ∨ k = 3 ∨ k = 4 ∨ k = 5 ∨ k = 6 by omega) with rfl | rfl | rfl | rfl | rfl | rfl | rfl
  · exact i_Row_0
  · exact i_Row_1
  · exact i_Row_2
  · exact i_Row_3
  · exact i_Row_4
  · exact i_Row_5
  · exact i_Row_6
theorem i_Share_0 : u_lay R_Share F_Share 0 ∈ zT := zT_of (List.mem_of_getElem? (i := 98) (by decide +kernel)) rfl
theorem i_Share_1 : u_lay R_Share F_Share 1 ∈ zT := zT_of (List.mem_of_getElem? (i := 100) (by decide +kernel)) rfl
theorem i_Share_2 : u_lay R_Share F_Share 2 ∈ zT := zT_of (List.mem_of_getElem? (i := 102) (by decide +kernel)) rfl
theorem i_Share_3 : u_lay R_Share F_Share 3 ∈ zT := zT_of (List.mem_of_getElem? (i := 104) (by decide +kernel)) rfl
theorem i_Share_4 : u_lay R_Share F_Share 4 ∈ zT := zT_of (List.mem_of_getElem? (i := 106) (by decide +kernel)) rfl
theorem i_Share_5 : u_lay R_Share F_Share 5 ∈ zT := zT_of (List.mem_of_getElem? (i := 108) (by decide +kernel)) rfl
theorem i_Share_6 : u_lay R_Share F_Share 6 ∈ zT := zT_of (List.mem_of_getElem? (i := 110) (by decide +kernel)) rfl
theorem i_Share_7 : u_lay R_Share F_Share 7 ∈ zT := zT_of (List.mem_of_getElem? (i := 112) (by decide +kernel)) rfl
theorem i_Share : ∀ w ∈ u_ws R_Share F_Share 8, w ∈ zT := by
  intro w hw
  obtain ⟨k, hk, rfl⟩ := List.mem_map.mp hw
  have hk := List.mem_range.mp hk
  rcases (show k = 0 ∨ k = 1 ∨ k = 2 ∨ k = 3 ∨ k = 4 ∨ k = 5 ∨ k = 6 ∨ k = 7 by omega) with rfl | rfl | rfl | rfl | rfl | rfl | rfl | rfl
  · exact i_Share_0
  · exact i_Share_1
  · exact i_Share_2
  · exact i_Share_3
  · exact i_Share_4
  · exact i_Share_5
  · exact i_Share_6
  · exact i_Share_7
theorem i_CountsRule_0 : u_lay R_CountsRule F_CountsRule 0 ∈ zT := zT_of (List.mem_of_getElem? (i := 124) (by decide +kernel)) rfl
theorem i_CountsRule_1 : u_lay R_CountsRule F_CountsRule 1 ∈ zT := zT_of (List.mem_of_getElem? (i := 126) (by decide +kernel)) rfl
theorem i_CountsRule_2 : u_lay R_CountsRule F_CountsRule 2 ∈ zT := zT_of (List.mem_of_getElem? (i := 128) (by decide +kernel)) rfl
theorem i_CountsRule : ∀ w ∈ u_ws R_CountsRule F_CountsRule 3, w ∈ zT := by
  intro w hw
  obtain ⟨k, hk, rfl⟩ := List.mem_map.mp hw
  have hk := List.mem_range.mp hk
  rcases (show k = 0 ∨ k = 1 ∨ k = 2 by omega) with rfl | rfl | rfl
  · exact i_CountsRule_0
  · exact i_CountsRule_1
  · exact i_CountsRule_2
theorem i_SC_0 : u_lay R_SC F_SC 0 ∈ zT := zT_of (List.mem_of_getElem? (i := 139) (by decide +kernel)) rfl
theorem i_SC_1 : u_lay R_SC F_SC 1 ∈ zT := zT_of (List.mem_of_getElem? (i := 141) (by decide +kernel)) rfl
theorem i_SC_2 : u_lay R_SC F_SC 2 ∈ zT := zT_of (List.mem_of_getElem? (i := 143) (by decide +kernel)) rfl
theorem i_SC_3 : u_lay R_SC F_SC 3 ∈ zT := zT_of (List.mem_of_getElem? (i := 145) (by decide +kernel)) rfl
theorem i_SC_4 : u_lay R_SC F_SC 4 ∈ zT := zT_of (List.mem_of_getElem? (i := 147) (by decide +kernel)) rfl
theorem i_SC_5 : u_lay R_SC F_SC 5 ∈ zT := zT_of (List.mem_of_getElem? (i := 149) (by decide +kernel)) rfl
theorem i_SC_6 : u_lay R_SC F_SC 6 ∈ zT := zT_of (List.mem_of_getElem? (i := 151) (by decide +kernel)) rfl
theorem i_SC_7 : u_lay R_SC F_SC 7 ∈ zT := zT_of (List.mem_of_getElem? (i := 153) (by decide +kernel)) rfl
theorem i_SC : ∀ w ∈ u_ws R_SC F_SC 8, w ∈ zT := by
  intro w hw
  obtain ⟨k, hk, rfl⟩ := List.mem_map.mp hw
  have hk := List.mem_range.mp hk
  rcases (show k = 0 ∨ k = 1 ∨ k = 2 ∨ k = 3 ∨ k = 4 ∨ k = 5 ∨ k = 6 ∨ k = 7 by omega) with rfl | rfl | rfl | rfl | rfl | rfl | rfl | rfl
  · exact i_SC_0
  · exact i_SC_1
  · exact i_SC_2
  · exact i_SC_3
  · exact i_SC_4
  · exact i_SC_5
  · exact i_SC_6
  · exact i_SC_7
theorem i_Mod_0 : u_lay R_Mod F_Mod 0 ∈ zT := zT_of (List.mem_of_getElem? (i := 496) (by decide +kernel)) rfl
theorem i_Mod_1 : u_lay R_Mod F_Mod 1 ∈ zT := zT_of (List.mem_of_getElem? (i := 498) (by decide +kernel)) rfl
theorem i_Mod_2 : u_lay R_Mod F_Mod 2 ∈ zT := zT_of (List.mem_of_getElem? (i := 500) (by decide +kernel)) rfl
theorem i_Mod_3 : u_lay R_Mod F_Mod 3 ∈ zT := zT_of (List.mem_of_getElem? (i := 502) (by decide +kernel)) rfl
theorem i_Mod_4 : u_lay R_Mod F_Mod 4 ∈ zT := zT_of (List.mem_of_getElem? (i := 504) (by decide +kernel)) rfl
theorem i_Mod_5 : u_lay R_Mod F_Mod 5 ∈ zT := zT_of (List.mem_of_getElem? (i := 506) (by decide +kernel)) rfl
theorem i_Mod_6 : u_lay R_Mod F_Mod 6 ∈ zT := zT_of (List.mem_of_getElem? (i := 508) (by decide +kernel)) rfl
theorem i_Mod_7 : u_lay R_Mod F_Mod 7 ∈ zT := zT_of (List.mem_of_getElem? (i := 510) (by decide +kernel)) rfl
theorem i_Mod_8 : u_lay R_Mod F_Mod 8 ∈ zT := zT_of (List.mem_of_getElem? (i := 512) (by decide +kernel)) rfl
theorem i_Mod_9 : u_lay R_Mod F_Mod 9 ∈ zT := zT_of (List.mem_of_getElem? (i := 514) (by decide +kernel)) rfl
theorem i_Mod_10 : u_lay R_Mod F_Mod 10 ∈ zT := zT_of (List.mem_of_getElem? (i := 516) (by decide +kernel)) rfl
theorem i_Mod_11 : u_lay R_Mod F_Mod 11 ∈ zT := zT_of (List.mem_of_getElem? (i := 518) (by decide +kernel)) rfl
theorem i_Mod_12 : u_lay R_Mod F_Mod 12 ∈ zT := zT_of (List.mem_of_getElem? (i := 520) (by decide +kernel)) rfl
theorem i_Mod_13 : u_lay R_Mod F_Mod 13 ∈ zT := zT_of (List.mem_of_getElem? (i := 522) (by decide +kernel)) rfl
theorem i_Mod : ∀ w ∈ u_ws R_Mod F_Mod 14, w ∈ zT := by
  intro w hw
  obtain ⟨k, hk, rfl⟩ := List.mem_map.mp hw
  have hk := List.mem_range.mp hk
  rcases (show k = 0 ∨ k = 1 ∨ k = 2 ∨ k = 3 ∨ k = 4 ∨ k = 5 ∨ k = 6 ∨ k = 7 ∨ k = 8 ∨ k = 9 ∨ k = 10 ∨ k = 11 ∨ k = 12 ∨ k = 13 by omega) with rfl | rfl | rfl | rfl | rfl | rfl | rfl | rfl | rfl | rfl | rfl | rfl | rfl | rfl
  · exact i_Mod_0
  · exact i_Mod_1
  · exact i_Mod_2
  · exact i_Mod_3
  · exact i_Mod_4
  · exact i_Mod_5
  · exact i_Mod_6
  · exact i_Mod_7
  · exact i_Mod_8
  · exact i_Mod_9
  · exact i_Mod_10
  · exact i_Mod_11
  · exact i_Mod_12
  · exact i_Mod_13
