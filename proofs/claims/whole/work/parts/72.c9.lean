theorem cd_RowCoder_allHaveWeight : Cond.code y_RowCoder_allHaveWeight b_RowCoder_allHaveWeight 4 (some .boolean) ∈ zT := zT_of (List.mem_of_getElem? (i := 428) (by decide +kernel)) rfl
theorem hd_RowCoder_allHaveWeight : y_RowCoder_allHaveWeight.cls ≠ "java/lang/invoke/MethodHandle" ∧ y_RowCoder_allHaveWeight.cls ≠ "java/lang/invoke/VarHandle" ∧ (parseMethodDescriptor y_RowCoder_allHaveWeight.desc).map (fun d => d.parameters.length) = some 3 := by decide +kernel
theorem lk_SC_134 : Cond.methodLink R_SC 134 y_RowCoder_allHaveWeight ∈ zT := zT_of (List.mem_of_getElem? (i := 426) (by decide +kernel)) rfl
theorem st_RowCoder_allHaveWeight : Cond.static y_RowCoder_allHaveWeight ∈ zT := zT_of (List.mem_of_getElem? (i := 427) (by decide +kernel)) rfl
theorem cd_RowCoder_putRow : Cond.code y_RowCoder_putRow b_RowCoder_putRow 7 (some .boolean) ∈ zT := zT_of (List.mem_of_getElem? (i := 434) (by decide +kernel)) rfl
theorem hd_RowCoder_putRow : y_RowCoder_putRow.cls ≠ "java/lang/invoke/MethodHandle" ∧ y_RowCoder_putRow.cls ≠ "java/lang/invoke/VarHandle" ∧ (parseMethodDescriptor y_RowCoder_putRow.desc).map (fun d => d.parameters.length) = some 4 := by decide +kernel
theorem lk_SC_140 : Cond.methodLink R_SC 140 y_RowCoder_putRow ∈ zT := zT_of (List.mem_of_getElem? (i := 432) (by decide +kernel)) rfl
theorem st_RowCoder_putRow : Cond.static y_RowCoder_putRow ∈ zT := zT_of (List.mem_of_getElem? (i := 433) (by decide +kernel)) rfl
theorem cd_SC_makeSpareOut : Cond.code y_SC_makeSpareOut b_SC_makeSpareOut 2 none ∈ zT := zT_of (List.mem_of_getElem? (i := 454) (by decide +kernel)) rfl
theorem hd_SC_makeSpareOut : y_SC_makeSpareOut.cls ≠ "java/lang/invoke/MethodHandle" ∧ y_SC_makeSpareOut.cls ≠ "java/lang/invoke/VarHandle" ∧ (parseMethodDescriptor y_SC_makeSpareOut.desc).map (fun d => d.parameters.length) = some 0 := by decide +kernel
theorem lk_SC_144 : Cond.methodLink R_SC 144 y_SC_makeSpareOut ∈ zT := zT_of (List.mem_of_getElem? (i := 451) (by decide +kernel)) rfl
theorem im_SC_makeSpareOut : Cond.instanceMethod y_SC_makeSpareOut ∈ zT := zT_of (List.mem_of_getElem? (i := 453) (by decide +kernel)) rfl
theorem se_SC_makeSpareOut : Cond.selects R_SC y_SC_makeSpareOut y_SC_makeSpareOut ∈ zT := zT_of (List.mem_of_getElem? (i := 10) (by decide +kernel)) rfl
theorem d_SC_encode_0 : decode b_SC_encode 0 = .ok (.aload_n 0, 1) := by decide +kernel
theorem d_SC_encode_1 : decode b_SC_encode 1 = .ok (.getfield 26, 3) := by decide +kernel
theorem d_SC_encode_4 : decode b_SC_encode 4 = .ok (.invokevirtual 91, 3) := by decide +kernel
theorem d_SC_encode_7 : decode b_SC_encode 7 = .ok (.ifCond .ne 5, 3) := by decide +kernel
theorem d_SC_encode_10 : decode b_SC_encode 10 = .ok (.iconst (-1), 1) := by decide +kernel
theorem d_SC_encode_11 : decode b_SC_encode 11 = .ok (.ireturn, 1) := by decide +kernel
theorem d_SC_encode_12 : decode b_SC_encode 12 = .ok (.aload_n 0, 1) := by decide +kernel
theorem d_SC_encode_13 : decode b_SC_encode 13 = .ok (.getfield 55, 3) := by decide +kernel
theorem d_SC_encode_16 : decode b_SC_encode 16 = .ok (.aload_n 0, 1) := by decide +kernel
theorem d_SC_encode_17 : decode b_SC_encode 17 = .ok (.getfield 19, 3) := by decide +kernel
theorem d_SC_encode_20 : decode b_SC_encode 20 = .ok (.invokevirtual 43, 3) := by decide +kernel
theorem d_SC_encode_23 : decode b_SC_encode 23 = .ok (.if_icmp .lt 6, 3) := by decide +kernel
theorem d_SC_encode_26 : decode b_SC_encode 26 = .ok (.bipush (-2), 2) := by decide +kernel
theorem d_SC_encode_28 : decode b_SC_encode 28 = .ok (.ireturn, 1) := by decide +kernel
theorem d_SC_encode_29 : decode b_SC_encode 29 = .ok (.aload_n 0, 1) := by decide +kernel
theorem d_SC_encode_30 : decode b_SC_encode 30 = .ok (.getfield 19, 3) := by decide +kernel
theorem d_SC_encode_33 : decode b_SC_encode 33 = .ok (.aload_n 0, 1) := by decide +kernel
theorem d_SC_encode_34 : decode b_SC_encode 34 = .ok (.getfield 55, 3) := by decide +kernel
theorem d_SC_encode_37 : decode b_SC_encode 37 = .ok (.aload_n 0, 1) := by decide +kernel
theorem d_SC_encode_38 : decode b_SC_encode 38 = .ok (.getfield 26, 3) := by decide +kernel
theorem d_SC_encode_41 : decode b_SC_encode 41 = .ok (.invokestatic 134, 3) := by decide +kernel
theorem d_SC_encode_44 : decode b_SC_encode 44 = .ok (.ifCond .ne 6, 3) := by decide +kernel
theorem d_SC_encode_47 : decode b_SC_encode 47 = .ok (.bipush (-3), 2) := by decide +kernel
theorem d_SC_encode_49 : decode b_SC_encode 49 = .ok (.ireturn, 1) := by decide +kernel
theorem d_SC_encode_50 : decode b_SC_encode 50 = .ok (.aload_n 0, 1) := by decide +kernel
theorem d_SC_encode_51 : decode b_SC_encode 51 = .ok (.getfield 19, 3) := by decide +kernel
theorem d_SC_encode_54 : decode b_SC_encode 54 = .ok (.aload_n 0, 1) := by decide +kernel
theorem d_SC_encode_55 : decode b_SC_encode 55 = .ok (.getfield 55, 3) := by decide +kernel
theorem d_SC_encode_58 : decode b_SC_encode 58 = .ok (.aload_n 0, 1) := by decide +kernel
theorem d_SC_encode_59 : decode b_SC_encode 59 = .ok (.getfield 26, 3) := by decide +kernel
theorem d_SC_encode_62 : decode b_SC_encode 62 = .ok (.aload_n 0, 1) := by decide +kernel
theorem d_SC_encode_63 : decode b_SC_encode 63 = .ok (.getfield 40, 3) := by decide +kernel
theorem d_SC_encode_66 : decode b_SC_encode 66 = .ok (.invokestatic 140, 3) := by decide +kernel
theorem d_SC_encode_69 : decode b_SC_encode 69 = .ok (.ifCond .ne 6, 3) := by decide +kernel
theorem d_SC_encode_72 : decode b_SC_encode 72 = .ok (.bipush (-4), 2) := by decide +kernel
theorem d_SC_encode_74 : decode b_SC_encode 74 = .ok (.ireturn, 1) := by decide +kernel
theorem d_SC_encode_75 : decode b_SC_encode 75 = .ok (.aload_n 0, 1) := by decide +kernel
theorem d_SC_encode_76 : decode b_SC_encode 76 = .ok (.invokevirtual 144, 3) := by decide +kernel
theorem d_SC_encode_79 : decode b_SC_encode 79 = .ok (.aload_n 0, 1) := by decide +kernel
theorem d_SC_encode_80 : decode b_SC_encode 80 = .ok (.getfield 37, 3) := by decide +kernel
theorem d_SC_encode_83 : decode b_SC_encode 83 = .ok (.invokevirtual 43, 3) := by decide +kernel
theorem d_SC_encode_86 : decode b_SC_encode 86 = .ok (.ireturn, 1) := by decide +kernel
abbrev rm_SC_encode : Room := { frames := 5, cells := 0, slots := 0, locals := 117 }
set_option maxHeartbeats 4000000 in
set_option maxRecDepth 100000 in
theorem c_SC_encode (l : Launch) (D : va_G) (cI cB cZ : ClassId) (sz : Nat) (g : Nat) (qc : Nat) (qp : Nat) (qi : Nat) (qs : Nat) (qr : Nat) (qo : Nat) (qx : Nat) (ps : Int) (pP : Nat) (pS : Nat) (pB : Nat) (pA : Nat) (pC : Nat) (pF : Nat) (pN : Nat) (o : Nat) (bi : Nat) (Li : Int) (hdi : Int) (hni : Int) (ovi : Int) (tsi : Int) (tbi : Int) (bo : Nat) (Lo : Int) (hdo : Int) (hno : Int) (ovo : Int) (tso : Int) (tbo : Int) (bx : Nat) (Lx : Int) (hdx : Int) (hnx : Int) (ovx : Int) (tsx : Int) (tbx : Int) (fi : Nat → Int) (fo : Nat → Int) (fx : Nat → Int) (gP : Nat → Int) (gS : Nat → Int) (gB : Nat → Int) (gA : Nat → Int) (gC : Nat → Int) (gF : Nat → Int) (hLi : 0 ≤ Li ∧ Li ≤ 6000) (hps : 0 ≤ ps ∧ ps ≤ Li) (hpr : ∀ k, k < 256 → -1 ≤ gP k ∧ gP k ≤ 65536) (ho : o = 0 ∨ (5 ≤ o ∧ o ≤ 12)) (hsh : 0 < o → shOK gP gS gB gA gC gF o) (hsum : 0 < o → cum gP 256 = 2 ^ o) (hfx : ∀ k, -128 ≤ fx k ∧ fx k < 128) : Met l y_SC_encode (.code y_SC_encode b_SC_encode 1 (some .int) :: zT) rm_SC_encode (zPc D classes (TY cI cB cZ) [(g, .inr (3, [.ref qc, .ref qp, .ref qi, .ref qs, .ref qr, .ref qo, .ref qx, .int (iZ ps)])), (qi, .inr (0, [.ref bi, .int (iZ Li), .int (iZ hdi), .int (iZ hni), .int (iZ ovi), .int (iZ tsi), .int (iZ tbi)])), (bi, .inl (cB, 6000, .inl (zA fi))), (qs, .inr (1, [.ref pP, .ref pS, .ref pB, .ref pA, .ref pC, .ref pF, .ref pN, .int (iZ (o : Int))])), (pP, .inl (cI, 256, .inl (zA gP))), (pF, .inl (cI, 256, .inl (zA gF))), (pC, .inl (cI, 4096, .inl (zA gC))), (qo, .inr (0, [.ref bo, .int (iZ Lo), .int (iZ hdo), .int (iZ hno), .int (iZ ovo), .int (iZ tso), .int (iZ tbo)])), (bo, .inl (cB, 6000, .inl (zA fo))), (qx, .inr (0, [.ref bx, .int (iZ Lx), .int (iZ hdx), .int (iZ hnx), .int (iZ ovx), .int (iZ tsx), .int (iZ tbx)])), (bx, .inl (cB, 6000, .inl (zA fx)))] sz [.ref g]) (zFi (S := Nat × Nat × Int × Int × Int × Int × (Nat → Int)) D classes (fun z u => (z = -1 ∧ o = 0 ∧ (u.1 = qo ∧ u.2.1 = qx ∧ ∀ k, -128 ≤ u.2.2.2.2.2.2 k ∧ u.2.2.2.2.2.2 k < 128)) ∨ (z = -2 ∧ 0 < o ∧ ps = Li ∧ (u.1 = qo ∧ u.2.1 = qx ∧ ∀ k, -128 ≤ u.2.2.2.2.2.2 k ∧ u.2.2.2.2.2.2 k < 128)) ∨ (z = -3 ∧ 0 < o ∧ ps < Li ∧ (∃ k : Nat, ps ≤ (k : Int) ∧ (k : Int) < Li ∧ gP (fi k % 256).toNat = 0) ∧ (u.1 = qo ∧ u.2.1 = qx ∧ ∀ k, -128 ≤ u.2.2.2.2.2.2 k ∧ u.2.2.2.2.2.2 k < 128)) ∨ (z = -4 ∧ 0 < o ∧ ps < Li ∧ (∀ k : Nat, ps ≤ (k : Int) → (k : Int) < Li → gP (fi k % 256).toNat ≠ 0) ∧ 48000 < (ecB gP gS o (fun k => fi k % 256) (Li - 1).toNat (Li - 1 - ps).toNat) ∧ (u.1 = qo ∧ u.2.1 = qx ∧ ∀ k, -128 ≤ u.2.2.2.2.2.2 k ∧ u.2.2.2.2.2.2 k < 128)) ∨ (z = u.2.2.1 ∧ 0 < o ∧ ps < Li ∧ (∀ k : Nat, ps ≤ (k : Int) → (k : Int) < Li → gP (fi k % 256).toNat ≠ 0) ∧ (ecB gP gS o (fun k => fi k % 256) (Li - 1).toNat (Li - 1 - ps).toNat) ≤ 48000 ∧ (u.1 = qx ∧ u.2.1 = qo) ∧ rI (ecV gP gS o (fun k => fi k % 256) (Li - 1).toNat (Li - 1 - ps).toNat) (8 * (((ecB gP gS o (fun k => fi k % 256) (Li - 1).toNat (Li - 1 - ps).toNat) + 7) / 8)) (((ecB gP gS o (fun k => fi k % 256) (Li - 1).toNat (Li - 1 - ps).toNat) + 7) / 8) u.2.2.1 u.2.2.2.1 u.2.2.2.2.1 u.2.2.2.2.2.1 u.2.2.2.2.2.2)) (fun u => [(g, .inr (3, [.ref qc, .ref qp, .ref qi, .ref qs, .ref qr, .ref u.1, .ref u.2.1, .int (iZ ps)])), (qi, .inr (0, [.ref bi, .int (iZ Li), .int (iZ hdi), .int (iZ hni), .int (iZ ovi), .int (iZ tsi), .int (iZ tbi)])), (bi, .inl (cB, 6000, .inl (zA fi))), (qs, .inr (1, [.ref pP, .ref pS, .ref pB, .ref pA, .ref pC, .ref pF, .ref pN, .int (iZ (o : Int))])), (pP, .inl (cI, 256, .inl (zA gP))), (pF, .inl (cI, 256, .inl (zA gF))), (pC, .inl (cI, 4096, .inl (zA gC))), (qo, .inr (0, [.ref bo, .int (iZ Lo), .int (iZ hdo), .int (iZ hno), .int (iZ ovo), .int (iZ tso), .int (iZ tbo)])), (bo, .inl (cB, 6000, .inl (zA fo))), (qx, .inr (0, [.ref bx, .int (iZ u.2.2.1), .int (iZ u.2.2.2.1), .int (iZ u.2.2.2.2.1), .int (iZ u.2.2.2.2.2.1), .int (iZ tsx), .int (iZ tbx)])), (bx, .inl (cB, 6000, .inl (zA u.2.2.2.2.2.2)))]) (va_A [(g, .inr (3, [.ref qc, .ref qp, .ref qi, .ref qs, .ref qr, .ref qo, .ref qx, .int (iZ ps)])), (qi, .inr (0, [.ref bi, .int (iZ Li), .int (iZ hdi), .int (iZ hni), .int (iZ ovi), .int (iZ tsi), .int (iZ tbi)])), (bi, .inl (cB, 6000, .inl (zA fi))), (qs, .inr (1, [.ref pP, .ref pS, .ref pB, .ref pA, .ref pC, .ref pF, .ref pN, .int (iZ (o : Int))])), (pP, .inl (cI, 256, .inl (zA gP))), (pF, .inl (cI, 256, .inl (zA gF))), (pC, .inl (cI, 4096, .inl (zA gC))), (qo, .inr (0, [.ref bo, .int (iZ Lo), .int (iZ hdo), .int (iZ hno), .int (iZ ovo), .int (iZ tso), .int (iZ tbo)])), (bo, .inl (cB, 6000, .inl (zA fo))), (qx, .inr (0, [.ref bx, .int (iZ Lx), .int (iZ hdx), .int (iZ hnx), .int (iZ ovx), .int (iZ tsx), .int (iZ tbx)])), (bx, .inl (cB, 6000, .inl (zA fx)))] sz)) 0 0 (va_A [(g, .inr (3, [.ref qc, .ref qp, .ref qi, .ref qs, .ref qr, .ref qo, .ref qx, .int (iZ ps)])), (qi, .inr (0, [.ref bi, .int (iZ Li), .int (iZ hdi), .int (iZ hni), .int (iZ ovi), .int (iZ tsi), .int (iZ tbi)])), (bi, .inl (cB, 6000, .inl (zA fi))), (qs, .inr (1, [.ref pP, .ref pS, .ref pB, .ref pA, .ref pC, .ref pF, .ref pN, .int (iZ (o : Int))])), (pP, .inl (cI, 256, .inl (zA gP))), (pF, .inl (cI, 256, .inl (zA gF))), (pC, .inl (cI, 4096, .inl (zA gC))), (qo, .inr (0, [.ref bo, .int (iZ Lo), .int (iZ hdo), .int (iZ hno), .int (iZ ovo), .int (iZ tso), .int (iZ tbo)])), (bo, .inl (cB, 6000, .inl (zA fo))), (qx, .inr (0, [.ref bx, .int (iZ Lx), .int (iZ hdx), .int (iZ hnx), .int (iZ ovx), .int (iZ tsx), .int (iZ tbx)])), (bx, .inl (cB, 6000, .inl (zA fx)))] sz) := by
  refine z_ofi (by decide) (Nat.le_of_ble_eq_true rfl) (Or.inl rfl) ?_
  intro p e s m args below meth c A Q E jA jK jret H locs jP jD jS ls jl
  obtain ⟨jx, jb, jrt, jml, jown, jts, jlk⟩ := E
  have jown : s.vm.findClass R_SC = some m.cls := jown
  have jl : lv_has ls 1 [(0, .ref g)] := jl
  refine lv_aload_n jx jb d_SC_encode_0 rfl (lv_at jl 0 rfl) ?_
  refine va_get (D := D) (ci := 3) (v := .ref qs) (C := R_SC) (T := F_SC) (N := 8) jx jb jts i_SC jown jK.1 jP 0 rfl rfl 3 (by decide) (jts _ fl_SC_26) (fun _ h9 => h9) rfl d_SC_encode_1 ?_
  refine z_backr (va_runV (As := []) (rest := []) ⟨jx, jb, jml, jown, jts⟩ (c_Share_exists l D cI cB cZ qs pP pS pB pA pC pF pN o (by omega)) (zc_V 0 jts cd_Share_exists lk_SC_91 im_Share_exists se_Share_exists in_Share hd_Share_exists ⟨Nat.le_of_ble_eq_true rfl, Nat.le_of_ble_eq_true rfl⟩ rfl rfl) (z_preVR jK jP [3] rfl rfl rfl) rfl rfl jl.1 rfl (lv_room (Nat.le_of_ble_eq_true rfl)) d_SC_encode_4 ⟨Nat.le_of_ble_eq_true rfl, Nat.le_of_ble_eq_true rfl⟩) (fun z4 hz4 => ?_)
  rcases hz4 with ⟨rfl, hq4⟩ | ⟨rfl, hq4⟩
  ·
    refine z_if_ne (tgt := 12) jx jb d_SC_encode_7 (by decide) ⟨by decide, by decide⟩ (fun hc7 => ?_) (fun hc7 => ?_)
    ·
      have ho0 : 0 < o := by omega
      have ho5 : 5 ≤ o ∧ o ≤ 12 := by omega
      refine lv_aload_n jx jb d_SC_encode_12 rfl (lv_at jl 0 rfl) ?_
      refine va_get (D := D) (ci := 3) (v := .int (iZ ps)) (C := R_SC) (T := F_SC) (N := 8) jx jb jts i_SC jown jK.1 jP 0 rfl rfl 7 (by decide) (jts _ fl_SC_55) (fun _ h9 => h9) rfl d_SC_encode_13 ?_
      refine lv_aload_n jx jb d_SC_encode_16 rfl (lv_at jl 0 rfl) ?_
      refine va_get (D := D) (ci := 3) (v := .ref qi) (C := R_SC) (T := F_SC) (N := 8) jx jb jts i_SC jown jK.1 jP 0 rfl rfl 2 (by decide) (jts _ fl_SC_19) (fun _ h9 => h9) rfl d_SC_encode_17 ?_
      refine z_backe (va_runV (As := []) (rest := [.int (iZ ps)]) ⟨jx, jb, jml, jown, jts⟩ (c_Row_length l D cI cB cZ qi bi Li hdi hni ovi tsi tbi) (zc_V 0 jts cd_Row_length lk_SC_43 im_Row_length se_Row_length in_Row hd_Row_length ⟨Nat.le_of_ble_eq_true rfl, Nat.le_of_ble_eq_true rfl⟩ rfl rfl) (z_preVR jK jP [1] rfl rfl rfl) rfl rfl jl.1 rfl (lv_room (Nat.le_of_ble_eq_true rfl)) d_SC_encode_20 ⟨Nat.le_of_ble_eq_true rfl, Nat.le_of_ble_eq_true rfl⟩) ?_
      refine z_icmp_lt (tgt := 29) jx jb d_SC_encode_23 (by decide) ⟨⟨by omega, by omega⟩, ⟨by omega, by omega⟩⟩ (fun hc23 => ?_) (fun hc23 => ?_)
      ·
        refine lv_aload_n jx jb d_SC_encode_29 rfl (lv_at jl 0 rfl) ?_
        refine va_get (D := D) (ci := 3) (v := .ref qi) (C := R_SC) (T := F_SC) (N := 8) jx jb jts i_SC jown jK.1 jP 0 rfl rfl 2 (by decide) (jts _ fl_SC_19) (fun _ h9 => h9) rfl d_SC_encode_30 ?_
        refine lv_aload_n jx jb d_SC_encode_33 rfl (lv_at jl 0 rfl) ?_
        refine va_get (D := D) (ci := 3) (v := .int (iZ ps)) (C := R_SC) (T := F_SC) (N := 8) jx jb jts i_SC jown jK.1 jP 0 rfl rfl 7 (by decide) (jts _ fl_SC_55) (fun _ h9 => h9) rfl d_SC_encode_34 ?_
        refine lv_aload_n jx jb d_SC_encode_37 rfl (lv_at jl 0 rfl) ?_
        refine va_get (D := D) (ci := 3) (v := .ref qs) (C := R_SC) (T := F_SC) (N := 8) jx jb jts i_SC jown jK.1 jP 0 rfl rfl 3 (by decide) (jts _ fl_SC_26) (fun _ h9 => h9) rfl d_SC_encode_38 ?_
        refine z_backr (va_runS (As := [.ref qi, .int (iZ ps), .ref qs]) (rest := []) ⟨jx, jb, jml, jown, jts⟩ (c_RC_allHaveWeight l D cI cB cZ qi bi Li hdi hni ovi tsi tbi fi qs pP pS pB pA pC pF pN o gP ps (by omega) (by omega) (by first | assumption | omega)) (zc_S 3 jts cd_RowCoder_allHaveWeight lk_SC_134 st_RowCoder_allHaveWeight in_RowCoder hd_RowCoder_allHaveWeight ⟨Nat.le_of_ble_eq_true rfl, Nat.le_of_ble_eq_true rfl⟩ rfl rfl) (z_preSR jK jP [1, 2, 3, 4] rfl) rfl rfl jl.1 rfl (lv_room (Nat.le_of_ble_eq_true rfl)) d_SC_encode_41 ⟨Nat.le_of_ble_eq_true rfl, Nat.le_of_ble_eq_true rfl⟩) (fun z41 hz41 => ?_)
        rcases hz41 with ⟨rfl, hq41⟩ | ⟨rfl, hq41⟩
        ·
          refine z_if_ne (tgt := 50) jx jb d_SC_encode_44 (by decide) ⟨by decide, by decide⟩ (fun hc44 => ?_) (fun hc44 => ?_)
          ·
            refine lv_aload_n jx jb d_SC_encode_50 rfl (lv_at jl 0 rfl) ?_
            refine va_get (D := D) (ci := 3) (v := .ref qi) (C := R_SC) (T := F_SC) (N := 8) jx jb jts i_SC jown jK.1 jP 0 rfl rfl 2 (by decide) (jts _ fl_SC_19) (fun _ h9 => h9) rfl d_SC_encode_51 ?_
            refine lv_aload_n jx jb d_SC_encode_54 rfl (lv_at jl 0 rfl) ?_
            refine va_get (D := D) (ci := 3) (v := .int (iZ ps)) (C := R_SC) (T := F_SC) (N := 8) jx jb jts i_SC jown jK.1 jP 0 rfl rfl 7 (by decide) (jts _ fl_SC_55) (fun _ h9 => h9) rfl d_SC_encode_55 ?_
            refine lv_aload_n jx jb d_SC_encode_58 rfl (lv_at jl 0 rfl) ?_
            refine va_get (D := D) (ci := 3) (v := .ref qs) (C := R_SC) (T := F_SC) (N := 8) jx jb jts i_SC jown jK.1 jP 0 rfl rfl 3 (by decide) (jts _ fl_SC_26) (fun _ h9 => h9) rfl d_SC_encode_59 ?_
            refine lv_aload_n jx jb d_SC_encode_62 rfl (lv_at jl 0 rfl) ?_
            refine va_get (D := D) (ci := 3) (v := .ref qx) (C := R_SC) (T := F_SC) (N := 8) jx jb jts i_SC jown jK.1 jP 0 rfl rfl 6 (by decide) (jts _ fl_SC_40) (fun _ h9 => h9) rfl d_SC_encode_63 ?_
            have hlt : ps < Li := by omega
            refine z_backi (wr := [(g, .inr (3, [.ref qc, .ref qp, .ref qi, .ref qs, .ref qr, .ref qo, .ref qx, .int (iZ ps)])), (qo, .inr (0, [.ref bo, .int (iZ Lo), .int (iZ hdo), .int (iZ hno), .int (iZ ovo), .int (iZ tso), .int (iZ tbo)])), (bo, .inl (cB, 6000, .inl (zA fo)))]) jP jD jS jA [1, 2, 3, 4, 5, 6, 9, 10] [0, 7, 8] rfl rfl (by decide) (by decide) (va_runS (As := [.ref qi, .int (iZ ps), .ref qs, .ref qx]) (rest := []) ⟨jx, jb, jml, jown, jts⟩ (c_RC_putRow l D cI cB cZ H.size qi bi Li hdi hni ovi tsi tbi fi qs pP pS pB pA pC pF pN o gP gS gB gA gC gF qx bx Lx hdx hnx ovx tsx tbx fx ps (by omega) (by first | assumption | omega) (ho5) (hsh ho0) (hsum ho0) (hq41) (hfx)) (zc_S 4 jts cd_RowCoder_putRow lk_SC_140 st_RowCoder_putRow in_RowCoder hd_RowCoder_putRow ⟨Nat.le_of_ble_eq_true rfl, Nat.le_of_ble_eq_true rfl⟩ rfl rfl) (z_preS jK jP jD [1, 2, 3, 4, 5, 6, 9, 10] (by decide) rfl rfl) rfl rfl jl.1 rfl (lv_room (Nat.le_of_ble_eq_true rfl)) d_SC_encode_66 ⟨Nat.le_of_ble_eq_true rfl, Nat.le_of_ble_eq_true rfl⟩) (fun z66 u66 H locs hz66 jP jD jS => ?_)
            obtain ⟨L1_66, hd1_66, hn1_66, ov1_66, f1_66⟩ := u66
            have jP : va_P D classes [(g, .inr (3, [.ref qc, .ref qp, .ref qi, .ref qs, .ref qr, .ref qo, .ref qx, .int (iZ ps)])), (qi, .inr (0, [.ref bi, .int (iZ Li), .int (iZ hdi), .int (iZ hni), .int (iZ ovi), .int (iZ tsi), .int (iZ tbi)])), (bi, .inl (cB, 6000, .inl (zA fi))), (qs, .inr (1, [.ref pP, .ref pS, .ref pB, .ref pA, .ref pC, .ref pF, .ref pN, .int (iZ (o : Int))])), (pP, .inl (cI, 256, .inl (zA gP))), (pF, .inl (cI, 256, .inl (zA gF))), (pC, .inl (cI, 4096, .inl (zA gC))), (qo, .inr (0, [.ref bo, .int (iZ Lo), .int (iZ hdo), .int (iZ hno), .int (iZ ovo), .int (iZ tso), .int (iZ tbo)])), (bo, .inl (cB, 6000, .inl (zA fo))), (qx, .inr (0, [.ref bx, .int (iZ L1_66), .int (iZ hd1_66), .int (iZ hn1_66), .int (iZ ov1_66), .int (iZ tsx), .int (iZ tbx)])), (bx, .inl (cB, 6000, .inl (zA f1_66)))] H := jP.sub [0, 3, 4, 5, 6, 7, 8, 1, 2, 9, 10] rfl
            have jD : va_D A [(g, .inr (3, [.ref qc, .ref qp, .ref qi, .ref qs, .ref qr, .ref qo, .ref qx, .int (iZ ps)])), (qi, .inr (0, [.ref bi, .int (iZ Li), .int (iZ hdi), .int (iZ hni), .int (iZ ovi), .int (iZ tsi), .int (iZ tbi)])), (bi, .inl (cB, 6000, .inl (zA fi))), (qs, .inr (1, [.ref pP, .ref pS, .ref pB, .ref pA, .ref pC, .ref pF, .ref pN, .int (iZ (o : Int))])), (pP, .inl (cI, 256, .inl (zA gP))), (pF, .inl (cI, 256, .inl (zA gF))), (pC, .inl (cI, 4096, .inl (zA gC))), (qo, .inr (0, [.ref bo, .int (iZ Lo), .int (iZ hdo), .int (iZ hno), .int (iZ ovo), .int (iZ tso), .int (iZ tbo)])), (bo, .inl (cB, 6000, .inl (zA fo))), (qx, .inr (0, [.ref bx, .int (iZ L1_66), .int (iZ hd1_66), .int (iZ hn1_66), .int (iZ ov1_66), .int (iZ tsx), .int (iZ tbx)])), (bx, .inl (cB, 6000, .inl (zA f1_66)))] := jD.sub [0, 3, 4, 5, 6, 7, 8, 1, 2, 9, 10] (by decide) rfl
            rcases hz66 with ⟨rfl, hq66⟩ | ⟨rfl, hq66⟩
            ·
              refine z_if_ne (tgt := 75) jx jb d_SC_encode_69 (by decide) ⟨by decide, by decide⟩ (fun hc69 => ?_) (fun hc69 => ?_)
              ·
                refine lv_aload_n jx jb d_SC_encode_75 rfl (lv_at jl 0 rfl) ?_
                refine z_backv (wr := [(qi, .inr (0, [.ref bi, .int (iZ Li), .int (iZ hdi), .int (iZ hni), .int (iZ ovi), .int (iZ tsi), .int (iZ tbi)])), (bi, .inl (cB, 6000, .inl (zA fi))), (qs, .inr (1, [.ref pP, .ref pS, .ref pB, .ref pA, .ref pC, .ref pF, .ref pN, .int (iZ (o : Int))])), (pP, .inl (cI, 256, .inl (zA gP))), (pF, .inl (cI, 256, .inl (zA gF))), (pC, .inl (cI, 4096, .inl (zA gC))), (qo, .inr (0, [.ref bo, .int (iZ Lo), .int (iZ hdo), .int (iZ hno), .int (iZ ovo), .int (iZ tso), .int (iZ tbo)])), (bo, .inl (cB, 6000, .inl (zA fo))), (qx, .inr (0, [.ref bx, .int (iZ L1_66), .int (iZ hd1_66), .int (iZ hn1_66), .int (iZ ov1_66), .int (iZ tsx), .int (iZ tbx)])), (bx, .inl (cB, 6000, .inl (zA f1_66)))]) jP jD jS jA [0] [1, 2, 3, 4, 5, 6, 7, 8, 9, 10] rfl rfl (by decide) (by decide) (va_runV (As := []) (rest := []) ⟨jx, jb, jml, jown, jts⟩ (c_SC_makeSpareOut l D cI cB cZ H.size g qc qp qi qs qr qo qx ps) (zc_V 0 jts cd_SC_makeSpareOut lk_SC_144 im_SC_makeSpareOut se_SC_makeSpareOut in_SC hd_SC_makeSpareOut ⟨Nat.le_of_ble_eq_true rfl, Nat.le_of_ble_eq_true rfl⟩ rfl rfl) (z_preV jK jP jD [0] (by decide) rfl rfl rfl rfl) rfl rfl jl.1 rfl (lv_room (Nat.le_of_ble_eq_true rfl)) d_SC_encode_76 ⟨Nat.le_of_ble_eq_true rfl, Nat.le_of_ble_eq_true rfl⟩) (fun u76 H locs hu76 jP jD jS => ?_)
                have jP : va_P D classes [(g, .inr (3, [.ref qc, .ref qp, .ref qi, .ref qs, .ref qr, .ref qx, .ref qo, .int (iZ ps)])), (qi, .inr (0, [.ref bi, .int (iZ Li), .int (iZ hdi), .int (iZ hni), .int (iZ ovi), .int (iZ tsi), .int (iZ tbi)])), (bi, .inl (cB, 6000, .inl (zA fi))), (qs, .inr (1, [.ref pP, .ref pS, .ref pB, .ref pA, .ref pC, .ref pF, .ref pN, .int (iZ (o : Int))])), (pP, .inl (cI, 256, .inl (zA gP))), (pF, .inl (cI, 256, .inl (zA gF))), (pC, .inl (cI, 4096, .inl (zA gC))), (qo, .inr (0, [.ref bo, .int (iZ Lo), .int (iZ hdo), .int (iZ hno), .int (iZ ovo), .int (iZ tso), .int (iZ tbo)])), (bo, .inl (cB, 6000, .inl (zA fo))), (qx, .inr (0, [.ref bx, .int (iZ L1_66), .int (iZ hd1_66), .int (iZ hn1_66), .int (iZ ov1_66), .int (iZ tsx), .int (iZ tbx)])), (bx, .inl (cB, 6000, .inl (zA f1_66)))] H := jP.sub [10, 0, 1, 2, 3, 4, 5, 6, 7, 8, 9] rfl
                have jD : va_D A [(g, .inr (3, [.ref qc, .ref qp, .ref qi, .ref qs, .ref qr, .ref qx, .ref qo, .int (iZ ps)])), (qi, .inr (0, [.ref bi, .int (iZ Li), .int (iZ hdi), .int (iZ hni), .int (iZ ovi), .int (iZ tsi), .int (iZ tbi)])), (bi, .inl (cB, 6000, .inl (zA fi))), (qs, .inr (1, [.ref pP, .ref pS, .ref pB, .ref pA, .ref pC, .ref pF, .ref pN, .int (iZ (o : Int))])), (pP, .inl (cI, 256, .inl (zA gP))), (pF, .inl (cI, 256, .inl (zA gF))), (pC, .inl (cI, 4096, .inl (zA gC))), (qo, .inr (0, [.ref bo, .int (iZ Lo), .int (iZ hdo), .int (iZ hno), .int (iZ ovo), .int (iZ tso), .int (iZ tbo)])), (bo, .inl (cB, 6000, .inl (zA fo))), (qx, .inr (0, [.ref bx, .int (iZ L1_66), .int (iZ hd1_66), .int (iZ hn1_66), .int (iZ ov1_66), .int (iZ tsx), .int (iZ tbx)])), (bx, .inl (cB, 6000, .inl (zA f1_66)))] := jD.sub [10, 0, 1, 2, 3, 4, 5, 6, 7, 8, 9] (by decide) rfl
                refine lv_aload_n jx jb d_SC_encode_79 rfl (lv_at jl 0 rfl) ?_
                refine va_get (D := D) (ci := 3) (v := .ref qx) (C := R_SC) (T := F_SC) (N := 8) jx jb jts i_SC jown jK.1 jP 0 rfl rfl 5 (by decide) (jts _ fl_SC_37) (fun _ h9 => h9) rfl d_SC_encode_80 ?_
                refine z_backe (va_runV (As := []) (rest := []) ⟨jx, jb, jml, jown, jts⟩ (c_Row_length l D cI cB cZ qx bx L1_66 hd1_66 hn1_66 ov1_66 tsx tbx) (zc_V 0 jts cd_Row_length lk_SC_43 im_Row_length se_Row_length in_Row hd_Row_length ⟨Nat.le_of_ble_eq_true rfl, Nat.le_of_ble_eq_true rfl⟩ rfl rfl) (z_preVR jK jP [9] rfl rfl rfl) rfl rfl jl.1 rfl (lv_room (Nat.le_of_ble_eq_true rfl)) d_SC_encode_83 ⟨Nat.le_of_ble_eq_true rfl, Nat.le_of_ble_eq_true rfl⟩) ?_
                exact jret _ _ _ (qx, qo, L1_66, hd1_66, hn1_66, ov1_66, f1_66) _ _ (Or.inl rfl) (Or.inr (Or.inr (Or.inr (Or.inr ⟨rfl, ho0, hlt, hq41, hq66.1, ⟨rfl, rfl⟩, hq66.2⟩)))) (jP.sub [0, 1, 2, 3, 4, 5, 6, 7, 8, 9, 10] rfl) (jD.sub [0, 1, 2, 3, 4, 5, 6, 7, 8, 9, 10] (by decide) rfl) jS d_SC_encode_86
              ·
                exact absurd hc69 (by decide)
            ·
              refine z_if_ne (tgt := 75) jx jb d_SC_encode_69 (by decide) ⟨by decide, by decide⟩ (fun hc69 => ?_) (fun hc69 => ?_)
              ·
                exact absurd hc69 (by decide)
              ·
                refine lv_bipush (v := iZ (-4)) jx jb d_SC_encode_72 (by decide) ?_
                exact jret _ _ _ (qo, qx, L1_66, hd1_66, hn1_66, ov1_66, f1_66) _ _ (Or.inl rfl) (Or.inr (Or.inr (Or.inr (Or.inl ⟨rfl, ho0, hlt, hq41, hq66.1, rfl, rfl, hq66.2⟩)))) (jP.sub [0, 1, 2, 3, 4, 5, 6, 7, 8, 9, 10] rfl) (jD.sub [0, 1, 2, 3, 4, 5, 6, 7, 8, 9, 10] (by decide) rfl) jS d_SC_encode_74
          ·
            exact absurd hc44 (by decide)
        ·
          refine z_if_ne (tgt := 50) jx jb d_SC_encode_44 (by decide) ⟨by decide, by decide⟩ (fun hc44 => ?_) (fun hc44 => ?_)
          ·
            exact absurd hc44 (by decide)
          ·
            refine lv_bipush (v := iZ (-3)) jx jb d_SC_encode_47 (by decide) ?_
            have hlt : ps < Li := by omega
            exact jret _ _ _ (qo, qx, Lx, hdx, hnx, ovx, fx) _ _ (Or.inl rfl) (Or.inr (Or.inr (Or.inl ⟨rfl, ho0, hlt, hq41, rfl, rfl, hfx⟩))) (jP.sub [0, 1, 2, 3, 4, 5, 6, 7, 8, 9, 10] rfl) (jD.sub [0, 1, 2, 3, 4, 5, 6, 7, 8, 9, 10] (by decide) rfl) jS d_SC_encode_49
      ·
        refine lv_bipush (v := iZ (-2)) jx jb d_SC_encode_26 (by decide) ?_
        exact jret _ _ _ (qo, qx, Lx, hdx, hnx, ovx, fx) _ _ (Or.inl rfl) (Or.inr (Or.inl ⟨rfl, ho0, by omega, rfl, rfl, hfx⟩)) (jP.sub [0, 1, 2, 3, 4, 5, 6, 7, 8, 9, 10] rfl) (jD.sub [0, 1, 2, 3, 4, 5, 6, 7, 8, 9, 10] (by decide) rfl) jS d_SC_encode_28
    ·
      exact absurd hc7 (by decide)
  ·
    refine z_if_ne (tgt := 12) jx jb d_SC_encode_7 (by decide) ⟨by decide, by decide⟩ (fun hc7 => ?_) (fun hc7 => ?_)
    ·
      exact absurd hc7 (by decide)
    ·
      refine lv_iconst (v := iZ (-1)) jx jb d_SC_encode_10 rfl ?_
      exact jret _ _ _ (qo, qx, Lx, hdx, hnx, ovx, fx) _ _ (Or.inl rfl) (Or.inl ⟨rfl, by omega, rfl, rfl, hfx⟩) (jP.sub [0, 1, 2, 3, 4, 5, 6, 7, 8, 9, 10] rfl) (jD.sub [0, 1, 2, 3, 4, 5, 6, 7, 8, 9, 10] (by decide) rfl) jS d_SC_encode_11
