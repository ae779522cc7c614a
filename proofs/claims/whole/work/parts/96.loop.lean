
theorem d_law_18 : decode code 18 = .ok (.iload_n 3, 1) := by decide +kernel
theorem d_law_19 : decode code 19 = .ok (.aload_n 0, 1) := by decide +kernel
theorem d_law_20 : decode code 20 = .ok (.arraylength, 1) := by decide +kernel
theorem d_law_21 : decode code 21 = .ok (.iconst 4, 1) := by decide +kernel
theorem d_law_22 : decode code 22 = .ok (.isub, 1) := by decide +kernel
theorem d_law_23 : decode code 23 = .ok (.if_icmp .gt 513, 3) := by decide +kernel
theorem d_law_26 : decode code 26 = .ok (.aload_n 0, 1) := by decide +kernel
theorem d_law_27 : decode code 27 = .ok (.iload_n 3, 1) := by decide +kernel
theorem d_law_28 : decode code 28 = .ok (.iaload, 1) := by decide +kernel
theorem d_law_29 : decode code 29 = .ok (.bipush 31, 2) := by decide +kernel
theorem d_law_31 : decode code 31 = .ok (.iand, 1) := by decide +kernel
theorem d_law_32 : decode code 32 = .ok (.tableswitch 498 0 17 #[88, 151, 162, 173, 196, 209, 242, 255, 278, 301, 314, 347, 370, 393, 426, 439, 462, 475], 88) := by decide +kernel
theorem d_law_530 : decode code 530 = .ok (.iinc 3 4, 3) := by decide +kernel
theorem d_law_533 : decode code 533 = .ok (.goto (-515), 3) := by decide +kernel
theorem d_law_536 : decode code 536 = .ok (.iconst 1, 1) := by decide +kernel
theorem d_law_537 : decode code 537 = .ok (.ireturn, 1) := by decide +kernel
set_option maxHeartbeats 4000000 in
set_option maxRecDepth 100000 in
/-- the law's loop: every call is answered alike -/
theorem law_loop {p : Program} {l : Launch} {e : Env} {s : State} {m : MethodId} {below : List Frame} {meth : Method} {c : Code} {A : Nat → Prop} {D : va_G} {cI cB cZ : ClassId} {b L : Nat} {sx : Nat → Int32} (jE : lwE p s m c A D cI cB cZ b L sx) (hr : meth.sig.returnType = ret) (hlocks : meth.locks = false) (jA2 : ∀ q, A q → s.heap.size ≤ q) : ∀ (nF i : Nat), i ≤ L + 4 → L + 5 < i + nF → ∀ (g qc qp qi qs qr qo qx bi bo bx pP pS pB pA pC pF pN u1 u2 r ri ro rc rp rs rd rk rh : Nat) (o : Nat) (ps Li hdi hni ovi tsi tbi Lo hdo hno ovo tso tbo Lx hdx hnx ovx tsx tbx rl bP bR oz oy go iL oL : Int) (fc fp fi fo fx gP gS gB gA gC gF gN yc yr xi xo xd xk xh xc xp xs : Nat → Int), lwI o oz oy ps go Li iL Lo oL fc xc gP xp gS xs gB gA gC gF fi xi fo xo fx → ∀ (H : Heap) (locs : List Loc), va_P D classes [(g, .inr (3, [.ref qc, .ref qp, .ref qi, .ref qs, .ref qr, .ref qo, .ref qx, .int (iZ ps)])), (qc, .inl (cI, 256, .inl (zA fc))), (qp, .inl (cI, 256, .inl (zA fp))), (qi, .inr (0, [.ref bi, .int (iZ Li), .int (iZ hdi), .int (iZ hni), .int (iZ ovi), .int (iZ tsi), .int (iZ tbi)])), (bi, .inl (cB, 6000, .inl (zA fi))), (qr, .inr (2, [.ref u1, .ref u2, .int (iZ rl)])), (u1, .inl (cI, 256, .inl (zA yc))), (u2, .inl (cI, 256, .inl (zA yr))), (qs, .inr (1, [.ref pP, .ref pS, .ref pB, .ref pA, .ref pC, .ref pF, .ref pN, .int (iZ oz)])), (pP, .inl (cI, 256, .inl (zA gP))), (pS, .inl (cI, 4096, .inl (zA gS))), (pB, .inl (cI, 4096, .inl (zA gB))), (pA, .inl (cI, 4096, .inl (zA gA))), (pC, .inl (cI, 4096, .inl (zA gC))), (pF, .inl (cI, 256, .inl (zA gF))), (pN, .inl (cI, 256, .inl (zA gN))), (qo, .inr (0, [.ref bo, .int (iZ Lo), .int (iZ hdo), .int (iZ hno), .int (iZ ovo), .int (iZ tso), .int (iZ tbo)])), (bo, .inl (cB, 6000, .inl (zA fo))), (qx, .inr (0, [.ref bx, .int (iZ Lx), .int (iZ hdx), .int (iZ hnx), .int (iZ ovx), .int (iZ tsx), .int (iZ tbx)])), (bx, .inl (cB, 6000, .inl (zA fx))), (r, .inr (4, [.ref ri, .int (iZ iL), .int (iZ go), .ref ro, .int (iZ oL), .ref rc, .int (iZ oy), .ref rp, .ref rs, .ref rd, .ref rk, .ref rh, .int (iZ bP), .int (iZ bR)])), (ri, .inl (cI, 6000, .inl (zA xi))), (ro, .inl (cI, 6000, .inl (zA xo))), (rc, .inl (cI, 256, .inl (zA xc))), (rp, .inl (cI, 256, .inl (zA xp))), (rs, .inl (cI, 4096, .inl (zA xs))), (rd, .inl (cI, 256, .inl (zA xd))), (rk, .inl (cI, 256, .inl (zA xk))), (rh, .inl (cZ, 256, .inl (zA xh)))] H → va_D A [(g, .inr (3, [.ref qc, .ref qp, .ref qi, .ref qs, .ref qr, .ref qo, .ref qx, .int (iZ ps)])), (qc, .inl (cI, 256, .inl (zA fc))), (qp, .inl (cI, 256, .inl (zA fp))), (qi, .inr (0, [.ref bi, .int (iZ Li), .int (iZ hdi), .int (iZ hni), .int (iZ ovi), .int (iZ tsi), .int (iZ tbi)])), (bi, .inl (cB, 6000, .inl (zA fi))), (qr, .inr (2, [.ref u1, .ref u2, .int (iZ rl)])), (u1, .inl (cI, 256, .inl (zA yc))), (u2, .inl (cI, 256, .inl (zA yr))), (qs, .inr (1, [.ref pP, .ref pS, .ref pB, .ref pA, .ref pC, .ref pF, .ref pN, .int (iZ oz)])), (pP, .inl (cI, 256, .inl (zA gP))), (pS, .inl (cI, 4096, .inl (zA gS))), (pB, .inl (cI, 4096, .inl (zA gB))), (pA, .inl (cI, 4096, .inl (zA gA))), (pC, .inl (cI, 4096, .inl (zA gC))), (pF, .inl (cI, 256, .inl (zA gF))), (pN, .inl (cI, 256, .inl (zA gN))), (qo, .inr (0, [.ref bo, .int (iZ Lo), .int (iZ hdo), .int (iZ hno), .int (iZ ovo), .int (iZ tso), .int (iZ tbo)])), (bo, .inl (cB, 6000, .inl (zA fo))), (qx, .inr (0, [.ref bx, .int (iZ Lx), .int (iZ hdx), .int (iZ hnx), .int (iZ ovx), .int (iZ tsx), .int (iZ tbx)])), (bx, .inl (cB, 6000, .inl (zA fx))), (r, .inr (4, [.ref ri, .int (iZ iL), .int (iZ go), .ref ro, .int (iZ oL), .ref rc, .int (iZ oy), .ref rp, .ref rs, .ref rd, .ref rk, .ref rh, .int (iZ bP), .int (iZ bR)])), (ri, .inl (cI, 6000, .inl (zA xi))), (ro, .inl (cI, 6000, .inl (zA xo))), (rc, .inl (cI, 256, .inl (zA xc))), (rp, .inl (cI, 256, .inl (zA xp))), (rs, .inl (cI, 4096, .inl (zA xs))), (rd, .inl (cI, 256, .inl (zA xd))), (rk, .inl (cI, 256, .inl (zA xk))), (rh, .inl (cZ, 256, .inl (zA xh)))] → va_S A s.heap H locs → ∀ ls : Array Slot, lv_has ls 4 [(0, .ref b), (1, .ref g), (2, .ref r), (3, .int (iZ (i : Int)))] → W p l e room_1 s m #[Value.ref b] below meth c H locs 29 53606 (lw_Z below #[Value.ref b] s) (F0 m 18 ls []) := by
  have jE0 := jE
  obtain ⟨jx, jb, jml, jown, jts, jX, jbl, jbA, jA, jK, hLb⟩ := jE
  intro nF
  induction nF with
  | zero => intro i h1 h2; exfalso; omega
  | succ nF ih =>
    intro i hi hm g qc qp qi qs qr qo qx bi bo bx pP pS pB pA pC pF pN u1 u2 r ri ro rc rp rs rd rk rh o ps Li hdi hni ovi tsi tbi Lo hdo hno ovo tso tbo Lx hdx hnx ovx tsx tbx rl bP bR oz oy go iL oL fc fp fi fo fx gP gS gB gA gC gF gN yc yr xi xo xd xk xh xc xp xs hI H locs jP jD jS ls jl
    obtain ⟨hn1, hn2, hn3, hN⟩ := lw_norm hI
    obtain ⟨ho1, ho2, he3, he4, he5⟩ := hI.1
    subst ho1 ho2
    obtain rfl := he3.symm
    obtain rfl := he4.symm
    obtain rfl := he5.symm
    obtain ⟨jP, jD⟩ := z_cgP jP jD 23 rfl hn1
    obtain ⟨jP, jD⟩ := z_cgP jP jD 24 rfl hn2
    obtain ⟨jP, jD⟩ := z_cgP jP jD 25 rfl hn3
    have jP : va_P D classes [(g, .inr (3, [.ref qc, .ref qp, .ref qi, .ref qs, .ref qr, .ref qo, .ref qx, .int (iZ ps)])), (qc, .inl (cI, 256, .inl (zA fc))), (qp, .inl (cI, 256, .inl (zA fp))), (qi, .inr (0, [.ref bi, .int (iZ Li), .int (iZ hdi), .int (iZ hni), .int (iZ ovi), .int (iZ tsi), .int (iZ tbi)])), (bi, .inl (cB, 6000, .inl (zA fi))), (qr, .inr (2, [.ref u1, .ref u2, .int (iZ rl)])), (u1, .inl (cI, 256, .inl (zA yc))), (u2, .inl (cI, 256, .inl (zA yr))), (qs, .inr (1, [.ref pP, .ref pS, .ref pB, .ref pA, .ref pC, .ref pF, .ref pN, .int (iZ (o : Int))])), (pP, .inl (cI, 256, .inl (zA gP))), (pS, .inl (cI, 4096, .inl (zA gS))), (pB, .inl (cI, 4096, .inl (zA gB))), (pA, .inl (cI, 4096, .inl (zA gA))), (pC, .inl (cI, 4096, .inl (zA gC))), (pF, .inl (cI, 256, .inl (zA gF))), (pN, .inl (cI, 256, .inl (zA gN))), (qo, .inr (0, [.ref bo, .int (iZ Lo), .int (iZ hdo), .int (iZ hno), .int (iZ ovo), .int (iZ tso), .int (iZ tbo)])), (bo, .inl (cB, 6000, .inl (zA fo))), (qx, .inr (0, [.ref bx, .int (iZ Lx), .int (iZ hdx), .int (iZ hnx), .int (iZ ovx), .int (iZ tsx), .int (iZ tbx)])), (bx, .inl (cB, 6000, .inl (zA fx))), (r, .inr (4, [.ref ri, .int (iZ Li), .int (iZ ps), .ref ro, .int (iZ Lo), .ref rc, .int (iZ (o : Int)), .ref rp, .ref rs, .ref rd, .ref rk, .ref rh, .int (iZ bP), .int (iZ bR)])), (ri, .inl (cI, 6000, .inl (zA xi))), (ro, .inl (cI, 6000, .inl (zA xo))), (rc, .inl (cI, 256, .inl (zA fc))), (rp, .inl (cI, 256, .inl (zA gP))), (rs, .inl (cI, 4096, .inl (zA gS))), (rd, .inl (cI, 256, .inl (zA xd))), (rk, .inl (cI, 256, .inl (zA xk))), (rh, .inl (cZ, 256, .inl (zA xh)))] H := jP
    have jD : va_D A [(g, .inr (3, [.ref qc, .ref qp, .ref qi, .ref qs, .ref qr, .ref qo, .ref qx, .int (iZ ps)])), (qc, .inl (cI, 256, .inl (zA fc))), (qp, .inl (cI, 256, .inl (zA fp))), (qi, .inr (0, [.ref bi, .int (iZ Li), .int (iZ hdi), .int (iZ hni), .int (iZ ovi), .int (iZ tsi), .int (iZ tbi)])), (bi, .inl (cB, 6000, .inl (zA fi))), (qr, .inr (2, [.ref u1, .ref u2, .int (iZ rl)])), (u1, .inl (cI, 256, .inl (zA yc))), (u2, .inl (cI, 256, .inl (zA yr))), (qs, .inr (1, [.ref pP, .ref pS, .ref pB, .ref pA, .ref pC, .ref pF, .ref pN, .int (iZ (o : Int))])), (pP, .inl (cI, 256, .inl (zA gP))), (pS, .inl (cI, 4096, .inl (zA gS))), (pB, .inl (cI, 4096, .inl (zA gB))), (pA, .inl (cI, 4096, .inl (zA gA))), (pC, .inl (cI, 4096, .inl (zA gC))), (pF, .inl (cI, 256, .inl (zA gF))), (pN, .inl (cI, 256, .inl (zA gN))), (qo, .inr (0, [.ref bo, .int (iZ Lo), .int (iZ hdo), .int (iZ hno), .int (iZ ovo), .int (iZ tso), .int (iZ tbo)])), (bo, .inl (cB, 6000, .inl (zA fo))), (qx, .inr (0, [.ref bx, .int (iZ Lx), .int (iZ hdx), .int (iZ hnx), .int (iZ ovx), .int (iZ tsx), .int (iZ tbx)])), (bx, .inl (cB, 6000, .inl (zA fx))), (r, .inr (4, [.ref ri, .int (iZ Li), .int (iZ ps), .ref ro, .int (iZ Lo), .ref rc, .int (iZ (o : Int)), .ref rp, .ref rs, .ref rd, .ref rk, .ref rh, .int (iZ bP), .int (iZ bR)])), (ri, .inl (cI, 6000, .inl (zA xi))), (ro, .inl (cI, 6000, .inl (zA xo))), (rc, .inl (cI, 256, .inl (zA fc))), (rp, .inl (cI, 256, .inl (zA gP))), (rs, .inl (cI, 4096, .inl (zA gS))), (rd, .inl (cI, 256, .inl (zA xd))), (rk, .inl (cI, 256, .inl (zA xk))), (rh, .inl (cZ, 256, .inl (zA xh)))] := jD
    have hz0 : zr (sx i).toInt := ⟨iZ_lo _, iZ_hi _⟩
    have hJ : i + 4 ≤ L + 4 → lwJ p l e s m below meth c A D cI cB cZ b i := by
      intro hi4 g qc qp qi qs qr qo qx bi bo bx pP pS pB pA pC pF pN u1 u2 r ri ro rc rp rs rd rk rh o ps Li hdi hni ovi tsi tbi Lo hdo hno ovo tso tbo Lx hdx hnx ovx tsx tbx rl bP bR oz oy go iL oL fc fp fi fo fx gP gS gB gA gC gF gN yc yr xi xo xd xk xh xc xp xs hI H locs jP jD jS ls jl
      refine lv_iinc (v := iZ ((i + 4 : Nat) : Int)) (lv' := [(3, .int (iZ ((i + 4 : Nat) : Int))), (0, .ref b), (1, .ref g), (2, .ref r)]) jx jb d_law_530 jl (k := 3) rfl (by rw [show ((i + 4 : Nat) : Int) = (i : Int) + 4 by omega]; exact iZ_add _ _) (by decide) rfl (fun ls jl => ?_)
      refine lv_goto (tgt := 18) jx jb d_law_533 (by decide) ?_
      exact ih (i + 4) hi4 (by omega) g qc qp qi qs qr qo qx bi bo bx pP pS pB pA pC pF pN u1 u2 r ri ro rc rp rs rd rk rh o ps Li hdi hni ovi tsi tbi Lo hdo hno ovo tso tbo Lx hdx hnx ovx tsx tbx rl bP bR oz oy go iL oL fc fp fi fo fx gP gS gB gA gC gF gN yc yr xi xo xd xk xh xc xp xs hI H locs jP jD jS _ (lv_sub jl [1, 2, 3, 0] rfl)
    refine lv_iload_n jx jb d_law_18 rfl (lv_at jl 3 rfl) ?_
    refine lv_aload_n jx jb d_law_19 rfl (lv_at jl 0 rfl) ?_
    refine z_slen jx jb jX jbl jbA jS d_law_20 ?_
    refine lv_iconst (v := iZ 4) jx jb d_law_21 rfl ?_
    refine z_isub jx jb d_law_22 ?_
    refine z_icmp_gt (tgt := 536) jx jb d_law_23 (by decide) ⟨⟨by omega, by omega⟩, ⟨by omega, by omega⟩⟩ (fun hc23 => ?_) (fun hc23 => ?_)
    ·
      refine lv_iconst (v := 1) jx jb d_law_536 rfl ?_
      refine va_forget (fun q hq => jA2 _ (jS.2.2 q hq)) ?_
      exact lw_ret jx jb hr hlocks d_law_537
    ·
      have hi4 : i + 4 ≤ L := by omega
      refine lv_aload_n jx jb d_law_26 rfl (lv_at jl 0 rfl) ?_
      refine lv_iload_n jx jb d_law_27 rfl (lv_at jl 3 rfl) ?_
      refine z_sld jx jb jX jbl jbA jS i (by omega) d_law_28 ?_
      refine lv_bipush (v := iZ 31) jx jb d_law_29 (by decide) ?_
      refine z_iand jx jb d_law_31 5 32 (rfl) (rfl) (by decide) ?_
      rcases (by omega : (((sx i).toInt) % 32) = 0 ∨ (((sx i).toInt) % 32) = 1 ∨ (((sx i).toInt) % 32) = 2 ∨ (((sx i).toInt) % 32) = 3 ∨ (((sx i).toInt) % 32) = 4 ∨ (((sx i).toInt) % 32) = 5 ∨ (((sx i).toInt) % 32) = 6 ∨ (((sx i).toInt) % 32) = 7 ∨ (((sx i).toInt) % 32) = 8 ∨ (((sx i).toInt) % 32) = 9 ∨ (((sx i).toInt) % 32) = 10 ∨ (((sx i).toInt) % 32) = 11 ∨ (((sx i).toInt) % 32) = 12 ∨ (((sx i).toInt) % 32) = 13 ∨ (((sx i).toInt) % 32) = 14 ∨ (((sx i).toInt) % 32) = 15 ∨ (((sx i).toInt) % 32) = 16 ∨ (((sx i).toInt) % 32) = 17 ∨ ((((sx i).toInt) % 32) < 0 ∨ 17 < (((sx i).toInt) % 32))) with h32 | h32 | h32 | h32 | h32 | h32 | h32 | h32 | h32 | h32 | h32 | h32 | h32 | h32 | h32 | h32 | h32 | h32 | h32
      ·
        refine z_tableIn (tgt := 120) jx jb d_law_32 0 h32 ⟨by decide, by decide⟩ (by decide) (by decide) rfl (by decide) ?_
        exact lc_0 jE0 i hi4 (hJ (by omega)) g qc qp qi qs qr qo qx bi bo bx pP pS pB pA pC pF pN u1 u2 r ri ro rc rp rs rd rk rh o ps Li hdi hni ovi tsi tbi Lo hdo hno ovo tso tbo Lx hdx hnx ovx tsx tbx rl bP bR fc fp fi fo fx gP gS gB gA gC gF gN yc yr xi xo xd xk xh hN H locs jP jD jS ls jl
      ·
        refine z_tableIn (tgt := 183) jx jb d_law_32 1 h32 ⟨by decide, by decide⟩ (by decide) (by decide) rfl (by decide) ?_
        exact lc_1 jE0 i hi4 (hJ (by omega)) g qc qp qi qs qr qo qx bi bo bx pP pS pB pA pC pF pN u1 u2 r ri ro rc rp rs rd rk rh o ps Li hdi hni ovi tsi tbi Lo hdo hno ovo tso tbo Lx hdx hnx ovx tsx tbx rl bP bR fc fp fi fo fx gP gS gB gA gC gF gN yc yr xi xo xd xk xh hN H locs jP jD jS ls jl
      ·
        refine z_tableIn (tgt := 194) jx jb d_law_32 2 h32 ⟨by decide, by decide⟩ (by decide) (by decide) rfl (by decide) ?_
        exact lc_2 jE0 i hi4 (hJ (by omega)) g qc qp qi qs qr qo qx bi bo bx pP pS pB pA pC pF pN u1 u2 r ri ro rc rp rs rd rk rh o ps Li hdi hni ovi tsi tbi Lo hdo hno ovo tso tbo Lx hdx hnx ovx tsx tbx rl bP bR fc fp fi fo fx gP gS gB gA gC gF gN yc yr xi xo xd xk xh hN H locs jP jD jS ls jl
      ·
        refine z_tableIn (tgt := 205) jx jb d_law_32 3 h32 ⟨by decide, by decide⟩ (by decide) (by decide) rfl (by decide) ?_
        exact lc_3 jE0 i hi4 (hJ (by omega)) g qc qp qi qs qr qo qx bi bo bx pP pS pB pA pC pF pN u1 u2 r ri ro rc rp rs rd rk rh o ps Li hdi hni ovi tsi tbi Lo hdo hno ovo tso tbo Lx hdx hnx ovx tsx tbx rl bP bR fc fp fi fo fx gP gS gB gA gC gF gN yc yr xi xo xd xk xh hN H locs jP jD jS ls jl
      ·
        refine z_tableIn (tgt := 228) jx jb d_law_32 4 h32 ⟨by decide, by decide⟩ (by decide) (by decide) rfl (by decide) ?_
        exact lc_4 jE0 i hi4 (hJ (by omega)) g qc qp qi qs qr qo qx bi bo bx pP pS pB pA pC pF pN u1 u2 r ri ro rc rp rs rd rk rh o ps Li hdi hni ovi tsi tbi Lo hdo hno ovo tso tbo Lx hdx hnx ovx tsx tbx rl bP bR fc fp fi fo fx gP gS gB gA gC gF gN yc yr xi xo xd xk xh hN H locs jP jD jS ls jl
      ·
        refine z_tableIn (tgt := 241) jx jb d_law_32 5 h32 ⟨by decide, by decide⟩ (by decide) (by decide) rfl (by decide) ?_
        exact lc_5 jE0 i hi4 (hJ (by omega)) g qc qp qi qs qr qo qx bi bo bx pP pS pB pA pC pF pN u1 u2 r ri ro rc rp rs rd rk rh o ps Li hdi hni ovi tsi tbi Lo hdo hno ovo tso tbo Lx hdx hnx ovx tsx tbx rl bP bR fc fp fi fo fx gP gS gB gA gC gF gN yc yr xi xo xd xk xh hN H locs jP jD jS ls jl
      ·
        refine z_tableIn (tgt := 274) jx jb d_law_32 6 h32 ⟨by decide, by decide⟩ (by decide) (by decide) rfl (by decide) ?_
        exact lc_6 jE0 i hi4 (hJ (by omega)) g qc qp qi qs qr qo qx bi bo bx pP pS pB pA pC pF pN u1 u2 r ri ro rc rp rs rd rk rh o ps Li hdi hni ovi tsi tbi Lo hdo hno ovo tso tbo Lx hdx hnx ovx tsx tbx rl bP bR fc fp fi fo fx gP gS gB gA gC gF gN yc yr xi xo xd xk xh hN H locs jP jD jS ls jl
      ·
        refine z_tableIn (tgt := 287) jx jb d_law_32 7 h32 ⟨by decide, by decide⟩ (by decide) (by decide) rfl (by decide) ?_
        exact lc_7 jE0 i hi4 (hJ (by omega)) g qc qp qi qs qr qo qx bi bo bx pP pS pB pA pC pF pN u1 u2 r ri ro rc rp rs rd rk rh o ps Li hdi hni ovi tsi tbi Lo hdo hno ovo tso tbo Lx hdx hnx ovx tsx tbx rl bP bR fc fp fi fo fx gP gS gB gA gC gF gN yc yr xi xo xd xk xh hN H locs jP jD jS ls jl
      ·
        refine z_tableIn (tgt := 310) jx jb d_law_32 8 h32 ⟨by decide, by decide⟩ (by decide) (by decide) rfl (by decide) ?_
        exact lc_8 jE0 i hi4 (hJ (by omega)) g qc qp qi qs qr qo qx bi bo bx pP pS pB pA pC pF pN u1 u2 r ri ro rc rp rs rd rk rh o ps Li hdi hni ovi tsi tbi Lo hdo hno ovo tso tbo Lx hdx hnx ovx tsx tbx rl bP bR fc fp fi fo fx gP gS gB gA gC gF gN yc yr xi xo xd xk xh hN H locs jP jD jS ls jl
      ·
        refine z_tableIn (tgt := 333) jx jb d_law_32 9 h32 ⟨by decide, by decide⟩ (by decide) (by decide) rfl (by decide) ?_
        exact lc_9 jE0 i hi4 (hJ (by omega)) g qc qp qi qs qr qo qx bi bo bx pP pS pB pA pC pF pN u1 u2 r ri ro rc rp rs rd rk rh o ps Li hdi hni ovi tsi tbi Lo hdo hno ovo tso tbo Lx hdx hnx ovx tsx tbx rl bP bR fc fp fi fo fx gP gS gB gA gC gF gN yc yr xi xo xd xk xh hN H locs jP jD jS ls jl
      ·
        refine z_tableIn (tgt := 346) jx jb d_law_32 10 h32 ⟨by decide, by decide⟩ (by decide) (by decide) rfl (by decide) ?_
        exact lc_10 jE0 i hi4 (hJ (by omega)) g qc qp qi qs qr qo qx bi bo bx pP pS pB pA pC pF pN u1 u2 r ri ro rc rp rs rd rk rh o ps Li hdi hni ovi tsi tbi Lo hdo hno ovo tso tbo Lx hdx hnx ovx tsx tbx rl bP bR fc fp fi fo fx gP gS gB gA gC gF gN yc yr xi xo xd xk xh hN H locs jP jD jS ls jl
      ·
        refine z_tableIn (tgt := 379) jx jb d_law_32 11 h32 ⟨by decide, by decide⟩ (by decide) (by decide) rfl (by decide) ?_
        exact lc_11 jE0 i hi4 (hJ (by omega)) g qc qp qi qs qr qo qx bi bo bx pP pS pB pA pC pF pN u1 u2 r ri ro rc rp rs rd rk rh o ps Li hdi hni ovi tsi tbi Lo hdo hno ovo tso tbo Lx hdx hnx ovx tsx tbx rl bP bR fc fp fi fo fx gP gS gB gA gC gF gN yc yr xi xo xd xk xh hN H locs jP jD jS ls jl
      ·
        refine z_tableIn (tgt := 402) jx jb d_law_32 12 h32 ⟨by decide, by decide⟩ (by decide) (by decide) rfl (by decide) ?_
        exact lc_12 jE0 i hi4 (hJ (by omega)) g qc qp qi qs qr qo qx bi bo bx pP pS pB pA pC pF pN u1 u2 r ri ro rc rp rs rd rk rh o ps Li hdi hni ovi tsi tbi Lo hdo hno ovo tso tbo Lx hdx hnx ovx tsx tbx rl bP bR fc fp fi fo fx gP gS gB gA gC gF gN yc yr xi xo xd xk xh hN H locs jP jD jS ls jl
      ·
        refine z_tableIn (tgt := 425) jx jb d_law_32 13 h32 ⟨by decide, by decide⟩ (by decide) (by decide) rfl (by decide) ?_
        exact lc_13 jE0 i hi4 (hJ (by omega)) g qc qp qi qs qr qo qx bi bo bx pP pS pB pA pC pF pN u1 u2 r ri ro rc rp rs rd rk rh o ps Li hdi hni ovi tsi tbi Lo hdo hno ovo tso tbo Lx hdx hnx ovx tsx tbx rl bP bR fc fp fi fo fx gP gS gB gA gC gF gN yc yr xi xo xd xk xh hN H locs jP jD jS ls jl
      ·
        refine z_tableIn (tgt := 458) jx jb d_law_32 14 h32 ⟨by decide, by decide⟩ (by decide) (by decide) rfl (by decide) ?_
        exact lc_14 jE0 i hi4 (hJ (by omega)) g qc qp qi qs qr qo qx bi bo bx pP pS pB pA pC pF pN u1 u2 r ri ro rc rp rs rd rk rh o ps Li hdi hni ovi tsi tbi Lo hdo hno ovo tso tbo Lx hdx hnx ovx tsx tbx rl bP bR fc fp fi fo fx gP gS gB gA gC gF gN yc yr xi xo xd xk xh hN H locs jP jD jS ls jl
      ·
        refine z_tableIn (tgt := 471) jx jb d_law_32 15 h32 ⟨by decide, by decide⟩ (by decide) (by decide) rfl (by decide) ?_
        exact lc_15 jE0 i hi4 (hJ (by omega)) g qc qp qi qs qr qo qx bi bo bx pP pS pB pA pC pF pN u1 u2 r ri ro rc rp rs rd rk rh o ps Li hdi hni ovi tsi tbi Lo hdo hno ovo tso tbo Lx hdx hnx ovx tsx tbx rl bP bR fc fp fi fo fx gP gS gB gA gC gF gN yc yr xi xo xd xk xh hN H locs jP jD jS ls jl
      ·
        refine z_tableIn (tgt := 494) jx jb d_law_32 16 h32 ⟨by decide, by decide⟩ (by decide) (by decide) rfl (by decide) ?_
        exact lc_16 jE0 i hi4 (hJ (by omega)) g qc qp qi qs qr qo qx bi bo bx pP pS pB pA pC pF pN u1 u2 r ri ro rc rp rs rd rk rh o ps Li hdi hni ovi tsi tbi Lo hdo hno ovo tso tbo Lx hdx hnx ovx tsx tbx rl bP bR fc fp fi fo fx gP gS gB gA gC gF gN yc yr xi xo xd xk xh hN H locs jP jD jS ls jl
      ·
        refine z_tableIn (tgt := 507) jx jb d_law_32 17 h32 ⟨by decide, by decide⟩ (by decide) (by decide) rfl (by decide) ?_
        exact lc_17 jE0 i hi4 (hJ (by omega)) g qc qp qi qs qr qo qx bi bo bx pP pS pB pA pC pF pN u1 u2 r ri ro rc rp rs rd rk rh o ps Li hdi hni ovi tsi tbi Lo hdo hno ovo tso tbo Lx hdx hnx ovx tsx tbx rl bP bR fc fp fi fo fx gP gS gB gA gC gF gN yc yr xi xo xd xk xh hN H locs jP jD jS ls jl
      ·
        refine z_tableOut (tgt := 530) jx jb d_law_32 ⟨by omega, by omega⟩ h32 (by decide) ?_
        have hJ := hJ (by omega)
        exact hJ g qc qp qi qs qr qo qx bi bo bx pP pS pB pA pC pF pN u1 u2 r ri ro rc rp rs rd rk rh o ps Li hdi hni ovi tsi tbi Lo hdo hno ovo tso tbo Lx hdx hnx ovx tsx tbx rl bP bR (o : Int) (o : Int) ps Li Lo fc fp fi fo fx gP gS gB gA gC gF gN yc yr xi xo xd xk xh fc gP gS (hN) _ _ (jP.sub [0, 1, 2, 3, 4, 5, 6, 7, 8, 9, 10, 11, 12, 13, 14, 15, 16, 17, 18, 19, 20, 21, 22, 23, 24, 25, 26, 27, 28] rfl) (jD.sub [0, 1, 2, 3, 4, 5, 6, 7, 8, 9, 10, 11, 12, 13, 14, 15, 16, 17, 18, 19, 20, 21, 22, 23, 24, 25, 26, 27, 28] (by decide) rfl) jS _ (lv_sub jl [0, 1, 2, 3] rfl)
