-- ===== end of PART A; then your names; then what follows =====
/-! THE CLAIM OUT OF ONE WALK OF THE LAW'S BODY. Your part is whole_start (and what it stands on); all else here is the same for every law, but numbers. -/
def R_law : String := "StateCoderLaw"
def lw_P (b : Addr) (xs : List Int32) (args : Array Value) (s : State) : Prop := args = #[.ref b] ∧ s.IntsAt b xs ∧ xs.length ≤ 2048 ∧ (Jvm.Cond.and given_1 narrow_1).before args s = true
def lw_Q (_ : Array Value) (s : State) (o : Outcome) (t : State) : Prop := o = .returned (some (.int 1)) ∧ Framed s o t [] 29 53606
def lw_Z (below : List Frame) (a : Array Value) (s : State) : State → Prop := fun t => ∃ o, t.status = .running ∧ Ended t below o ∧ lw_Q a s o t
/-- the law's own end, with 1 on the stack, nothing written that was there before, its room as the claim has it -/
theorem lw_ret {p : Program} {l : Launch} {e : Env} {s : State} {m : MethodId} {below : List Frame} {meth : Method} {c : Code} {b : Nat} (hx : p.tables.exec = Jvm.exec) (hb : c.code = code) (hr : meth.sig.returnType = ret) (hlocks : meth.locks = false) {pc : Nat} {H : Heap} {ls : Array Slot} (hdg : decode code pc = .ok (.ireturn, 1)) : W p l e room_1 s m #[Value.ref b] below meth c H [] 29 53606 (lw_Z below #[Value.ref b] s) (F0 m pc ls [.int 1]) := by
  intro T hT X
  obtain ⟨fs, hret, hrun, hended, hW, hframe⟩ := X.leave (v := some (.int 1)) (hlocks := hlocks) (fun h => by rw [hr] at h; cases h)
  have hmeth' : T.vm.method? m = some meth := X.method'
  refine ⟨T.setFrames fs, ?_, .returned (some (.int 1)), hrun, hended, rfl, ⟨_, rfl⟩, hW, hframe⟩
  jvm_step X.here [X.here.top, hx, hb, hdg, hmeth', hr, ret, narrow_b1]
  (try refine ⟨rfl, ?_⟩); (try refine ⟨rfl, ?_⟩)
  first | (intro acts; rw [hret _ acts rfl rfl rfl]) | rw [hret _ _ rfl rfl rfl]
  exact Steps.refl _
/-- what holds at the law's entry: the machine, the code, the tables' words (any of lw_tbl by 'hts w (by decide +kernel)'), the script of L ints xs at the cell b, what the Statement gives of the start (any of its parts by flat_of_before) -/
def lw_At (p : Program) (s : State) (m : MethodId) (meth : Method) (c : Code) (b L : Nat) (xs : Nat → Int32) : Prop :=
  p.tables.exec = Jvm.exec ∧ c.code = code ∧ meth.sig.returnType = ret ∧ c.maxLocals = 4 ∧ s.vm.findClass R_law = some m.cls ∧ (∀ w ∈ lw_tbl, w.before #[Value.ref b] s = true) ∧ va_X b L xs s s.heap ∧ b < s.heap.size ∧ meth.locks = false ∧ (Jvm.Cond.and given_1 narrow_1).before #[Value.ref b] s = true
/-! the law's own layer -/
theorem z_ty {args : Array Value} {s : State} {ty : FieldType} (hty : ty = .int ∨ ty = .byte ∨ ty = .boolean) (h : (Cond.arrayClass ty).before args s = true) : ∃ cA : ClassId, ArrOfT s cA ty ∧ va_RA s cA ty := by
  obtain ⟨cA, kA, comp, h1, h2, h3⟩ := Cond.arrayClass_spec h
  refine ⟨cA, fun n z => ⟨fun k h => (by cases h), kA, h2, comp, h3⟩, ?_⟩
  rcases hty with rfl | rfl | rfl <;> exact h1
theorem z_K0 {D : va_G} {cl : List vw_C} {tys : List (ClassId × FieldType)} {s : State} {args : Array Value} (hts : ∀ w ∈ lw_tbl, w.before args s = true) (h : va_K D cl tys s) : zK D cl tys s := by
  refine ⟨h, fun w hw hn => ?_⟩
  have h0 := hts w hw
  cases w with
  | fieldLinkNest => exact va_Nw.of rfl h0
  | methodLinkNest => exact va_Nw.of rfl h0
  | _ => cases hn
theorem z_cell {cA : ClassId} {n : Nat} {g g2 : Nat → Int} (h : ∀ k, k < n → g k = g2 k) : vp_cell cA (n, .inl (zA g)) = vp_cell cA (n, .inl (zA g2)) := by
  have e : (fun j : Fin n => Value.int (zA g j.val)) = (fun j : Fin n => Value.int (zA g2 j.val)) := funext fun j => by
    show Value.int (iZ (g j.val)) = Value.int (iZ (g2 j.val))
    rw [h j.val j.isLt]
  exact congrArg (fun f : Fin n → Value => ({ cls := cA, slots := Array.ofFn f, vm := .none } : Cell)) e
section ZLAW
variable {p : Program} {l : Launch} {e : Env} {R : Room} {s : State} {m : MethodId} {args : Array Value} {below : List Frame} {meth : Method} {c : Code} {H : Heap} {locs : List Loc} {cells slots : Nat} {Q : State → Prop}
variable {cc : ByteArray} {pc : Nat} {ls : Array Slot} {rest : List Value} {a : Int}
variable {D : va_G} {cl : List vw_C} {A : Nat → Prop} {ad : Nat} {ws : va_W} {H0 : Heap} {cA : ClassId} {n : Nat} {g g2 : Nat → Int}
theorem z_cgP (hP : va_P D cl ws H) (hD : va_D A ws) (q0 : Nat) (ha : ws[q0]? = some (ad, .inl (cA, n, .inl (zA g)))) (h : ∀ k, k < n → g k = g2 k) : va_P D cl (ws.set q0 (ad, .inl (cA, n, .inl (zA g2)))) H ∧ va_D A (ws.set q0 (ad, .inl (cA, n, .inl (zA g2)))) := by
  refine ⟨hP.set hD ha ?_ (fun _ _ => rfl), hD.set ha⟩
  have h0 := hP q0 _ ha
  show H[ad]? = some (vp_cell cA (n, .inl (zA g2)))
  rw [← z_cell h]
  exact h0
theorem z_sld (hx : p.tables.exec = Jvm.exec) (hb : c.code = cc) {b L : Nat} {xs : Nat → Int32} (hX : va_X b L xs s H0) (hbl : b < H0.size) (hbA : ¬ A b) (hS : va_S A H0 H locs) (k0 : Nat) (hi : a = k0 ∧ k0 < L ∧ L ≤ 2147483647) (hdg : decode cc pc = .ok (.iaload, 1)) (k : W p l e R s m args below meth c H locs cells slots Q (F0 m (pc + 1) ls (.int (iZ (xs k0).toInt) :: rest))) : W p l e R s m args below meth c H locs cells slots Q (F0 m pc ls (.int (iZ a) :: .ref b :: rest)) := by
  refine va_sld hx hb hX hbl hbA hS (iZ_in (by omega) (by omega) (by omega)) hdg ?_
  rw [iZ_cl (by omega) (by omega), hi.1, Int.toNat_natCast, iZ_of (xs k0)]
  exact k
theorem z_slen (hx : p.tables.exec = Jvm.exec) (hb : c.code = cc) {b L : Nat} {xs : Nat → Int32} (hX : va_X b L xs s H0) (hbl : b < H0.size) (hbA : ¬ A b) (hS : va_S A H0 H locs) (hdg : decode cc pc = .ok (.arraylength, 1)) (k : W p l e R s m args below meth c H locs cells slots Q (F0 m (pc + 1) ls (.int (iZ (L : Int)) :: rest))) : W p l e R s m args below meth c H locs cells slots Q (F0 m pc ls (.ref b :: rest)) := by
  refine va_slen hx hb hX hbl hbA hS hdg ?_
  rw [show Int32.ofNat L = iZ (L : Int) from Int32.ofInt_eq_ofNat.symm]
  exact k
end ZLAW
theorem lw_zero : lwI 0 0 0 0 0 0 0 0 0 (fun _ => 0) (fun _ => 0) (fun _ => 0) (fun _ => 0) (fun _ => 0) (fun _ => 0) (fun _ => 0) (fun _ => 0) (fun _ => 0) (fun _ => 0) (fun _ => 0) (fun _ => 0) (fun _ => 0) (fun _ => 0) (fun _ => 0) := ⟨⟨rfl, rfl, rfl, rfl, rfl⟩, Or.inl rfl, by decide, fun _ _ => ⟨rfl, (by decide : (0 : Int) ≤ 0 ∧ (0 : Int) ≤ 65535)⟩, fun _ _ => ⟨rfl, (by decide : (-1 : Int) ≤ 0 ∧ (0 : Int) ≤ 65536)⟩, fun _ _ => ⟨rfl, (by decide : (0 : Int) ≤ 0 ∧ (0 : Int) < 256)⟩, ⟨fun _ _ => rfl, fun _ => (by decide : (-128 : Int) ≤ 0 ∧ (0 : Int) < 128), fun _ _ => (by decide : (0 : Int) ≤ 0 ∧ (0 : Int) < 256)⟩, ⟨fun _ _ => rfl, fun _ => (by decide : (-128 : Int) ≤ 0 ∧ (0 : Int) < 128), fun _ _ => (by decide : (0 : Int) ≤ 0 ∧ (0 : Int) < 256)⟩, fun _ => (by decide : (-128 : Int) ≤ 0 ∧ (0 : Int) < 128), fun h => absurd h (by decide)⟩
/-- what every place of the law has -/
abbrev lwE (p : Program) (s : State) (m : MethodId) (c : Code) (A : Nat → Prop) (D : va_G) (cI cB cZ : ClassId) (b L : Nat) (sx : Nat → Int32) : Prop := p.tables.exec = Jvm.exec ∧ c.code = code ∧ c.maxLocals = 4 ∧ s.vm.findClass R_law = some m.cls ∧ (∀ w ∈ zT, w.before #[Value.ref b] s = true) ∧ va_X b L sx s s.heap ∧ b < s.heap.size ∧ (¬ A b) ∧ (∀ q, s.heap.size ≤ q → A q) ∧ zK D classes (TY cI cB cZ) s ∧ L ≤ 1000000
/-- behind a call: on to the next -/
abbrev lwJ (p : Program) (l : Launch) (e : Env) (s : State) (m : MethodId) (below : List Frame) (meth : Method) (c : Code) (A : Nat → Prop) (D : va_G) (cI cB cZ : ClassId) (b i : Nat) : Prop := ∀ (g qc qp qi qs qr qo qx bi bo bx pP pS pB pA pC pF pN u1 u2 r ri ro rc rp rs rd rk rh : Nat) (o : Nat) (ps Li hdi hni ovi tsi tbi Lo hdo hno ovo tso tbo Lx hdx hnx ovx tsx tbx rl bP bR oz oy go iL oL : Int) (fc fp fi fo fx gP gS gB gA gC gF gN yc yr xi xo xd xk xh xc xp xs : Nat → Int), lwI o oz oy ps go Li iL Lo oL fc xc gP xp gS xs gB gA gC gF fi xi fo xo fx → ∀ (H : Heap) (locs : List Loc), va_P D classes [(g, .inr (3, [.ref qc, .ref qp, .ref qi, .ref qs, .ref qr, .ref qo, .ref qx, .int (iZ ps)])), (qc, .inl (cI, 256, .inl (zA fc))), (qp, .inl (cI, 256, .inl (zA fp))), (qi, .inr (0, [.ref bi, .int (iZ Li), .int (iZ hdi), .int (iZ hni), .int (iZ ovi), .int (iZ tsi), .int (iZ tbi)])), (bi, .inl (cB, 6000, .inl (zA fi))), (qr, .inr (2, [.ref u1, .ref u2, .int (iZ rl)])), (u1, .inl (cI, 256, .inl (zA yc))), (u2, .inl (cI, 256, .inl (zA yr))), (qs, .inr (1, [.ref pP, .ref pS, .ref pB, .ref pA, .ref pC, .ref pF, .ref pN, .int (iZ oz)])), (pP, .inl (cI, 256, .inl (zA gP))), (pS, .inl (cI, 4096, .inl (zA gS))), (pB, .inl (cI, 4096, .inl (zA gB))), (pA, .inl (cI, 4096, .inl (zA gA))), (pC, .inl (cI, 4096, .inl (zA gC))), (pF, .inl (cI, 256, .inl (zA gF))), (pN, .inl (cI, 256, .inl (zA gN))), (qo, .inr (0, [.ref bo, .int (iZ Lo), .int (iZ hdo), .int (iZ hno), .int (iZ ovo), .int (iZ tso), .int (iZ tbo)])), (bo, .inl (cB, 6000, .inl (zA fo))), (qx, .inr (0, [.ref bx, .int (iZ Lx), .int (iZ hdx), .int (iZ hnx), .int (iZ ovx), .int (iZ tsx), .int (iZ tbx)])), (bx, .inl (cB, 6000, .inl (zA fx))), (r, .inr (4, [.ref ri, .int (iZ iL), .int (iZ go), .ref ro, .int (iZ oL), .ref rc, .int (iZ oy), .ref rp, .ref rs, .ref rd, .ref rk, .ref rh, .int (iZ bP), .int (iZ bR)])), (ri, .inl (cI, 6000, .inl (zA xi))), (ro, .inl (cI, 6000, .inl (zA xo))), (rc, .inl (cI, 256, .inl (zA xc))), (rp, .inl (cI, 256, .inl (zA xp))), (rs, .inl (cI, 4096, .inl (zA xs))), (rd, .inl (cI, 256, .inl (zA xd))), (rk, .inl (cI, 256, .inl (zA xk))), (rh, .inl (cZ, 256, .inl (zA xh)))] H → va_D A [(g, .inr (3, [.ref qc, .ref qp, .ref qi, .ref qs, .ref qr, .ref qo, .ref qx, .int (iZ ps)])), (qc, .inl (cI, 256, .inl (zA fc))), (qp, .inl (cI, 256, .inl (zA fp))), (qi, .inr (0, [.ref bi, .int (iZ Li), .int (iZ hdi), .int (iZ hni), .int (iZ ovi), .int (iZ tsi), .int (iZ tbi)])), (bi, .inl (cB, 6000, .inl (zA fi))), (qr, .inr (2, [.ref u1, .ref u2, .int (iZ rl)])), (u1, .inl (cI, 256, .inl (zA yc))), (u2, .inl (cI, 256, .inl (zA yr))), (qs, .inr (1, [.ref pP, .ref pS, .ref pB, .ref pA, .ref pC, .ref pF, .ref pN, .int (iZ oz)])), (pP, .inl (cI, 256, .inl (zA gP))), (pS, .inl (cI, 4096, .inl (zA gS))), (pB, .inl (cI, 4096, .inl (zA gB))), (pA, .inl (cI, 4096, .inl (zA gA))), (pC, .inl (cI, 4096, .inl (zA gC))), (pF, .inl (cI, 256, .inl (zA gF))), (pN, .inl (cI, 256, .inl (zA gN))), (qo, .inr (0, [.ref bo, .int (iZ Lo), .int (iZ hdo), .int (iZ hno), .int (iZ ovo), .int (iZ tso), .int (iZ tbo)])), (bo, .inl (cB, 6000, .inl (zA fo))), (qx, .inr (0, [.ref bx, .int (iZ Lx), .int (iZ hdx), .int (iZ hnx), .int (iZ ovx), .int (iZ tsx), .int (iZ tbx)])), (bx, .inl (cB, 6000, .inl (zA fx))), (r, .inr (4, [.ref ri, .int (iZ iL), .int (iZ go), .ref ro, .int (iZ oL), .ref rc, .int (iZ oy), .ref rp, .ref rs, .ref rd, .ref rk, .ref rh, .int (iZ bP), .int (iZ bR)])), (ri, .inl (cI, 6000, .inl (zA xi))), (ro, .inl (cI, 6000, .inl (zA xo))), (rc, .inl (cI, 256, .inl (zA xc))), (rp, .inl (cI, 256, .inl (zA xp))), (rs, .inl (cI, 4096, .inl (zA xs))), (rd, .inl (cI, 256, .inl (zA xd))), (rk, .inl (cI, 256, .inl (zA xk))), (rh, .inl (cZ, 256, .inl (zA xh)))] → va_S A s.heap H locs → ∀ ls : Array Slot, lv_has ls 4 [(0, .ref b), (1, .ref g), (2, .ref r), (3, .int (iZ (i : Int)))] → W p l e room_1 s m #[Value.ref b] below meth c H locs 29 53606 (lw_Z below #[Value.ref b] s) (F0 m 530 ls [])
