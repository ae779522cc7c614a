theorem lk_ShareReader_38 : Cond.methodLink R_ShareReader 38 y_NumberForm_shortBits ∈ zT := zT_of (List.mem_of_getElem? (i := 379) (by decide +kernel)) rfl
theorem lk_ShareReader_43 : Cond.methodLink R_ShareReader 43 y_NumberForm_firstLong ∈ zT := zT_of (List.mem_of_getElem? (i := 380) (by decide +kernel)) rfl
theorem cd_Row_hasBits : Cond.code y_Row_hasBits b_Row_hasBits 2 (some .boolean) ∈ zT := zT_of (List.mem_of_getElem? (i := 361) (by decide +kernel)) rfl
theorem hd_Row_hasBits : y_Row_hasBits.cls ≠ "java/lang/invoke/MethodHandle" ∧ y_Row_hasBits.cls ≠ "java/lang/invoke/VarHandle" ∧ (parseMethodDescriptor y_Row_hasBits.desc).map (fun d => d.parameters.length) = some 1 := by decide +kernel
theorem lk_ShareReader_9 : Cond.methodLink R_ShareReader 9 y_Row_hasBits ∈ zT := zT_of (List.mem_of_getElem? (i := 358) (by decide +kernel)) rfl
theorem im_Row_hasBits : Cond.instanceMethod y_Row_hasBits ∈ zT := zT_of (List.mem_of_getElem? (i := 359) (by decide +kernel)) rfl
theorem se_Row_hasBits : Cond.selects R_Row y_Row_hasBits y_Row_hasBits ∈ zT := zT_of (List.mem_of_getElem? (i := 360) (by decide +kernel)) rfl
theorem lk_ShareReader_46 : Cond.methodLink R_ShareReader 46 y_Row_nextBits ∈ zT := zT_of (List.mem_of_getElem? (i := 381) (by decide +kernel)) rfl
theorem cd_Row_takeBits : Cond.code y_Row_takeBits b_Row_takeBits 3 (some .int) ∈ zT := zT_of (List.mem_of_getElem? (i := 365) (by decide +kernel)) rfl
theorem hd_Row_takeBits : y_Row_takeBits.cls ≠ "java/lang/invoke/MethodHandle" ∧ y_Row_takeBits.cls ≠ "java/lang/invoke/VarHandle" ∧ (parseMethodDescriptor y_Row_takeBits.desc).map (fun d => d.parameters.length) = some 1 := by decide +kernel
theorem lk_ShareReader_15 : Cond.methodLink R_ShareReader 15 y_Row_takeBits ∈ zT := zT_of (List.mem_of_getElem? (i := 362) (by decide +kernel)) rfl
theorem im_Row_takeBits : Cond.instanceMethod y_Row_takeBits ∈ zT := zT_of (List.mem_of_getElem? (i := 363) (by decide +kernel)) rfl
theorem se_Row_takeBits : Cond.selects R_Row y_Row_takeBits y_Row_takeBits ∈ zT := zT_of (List.mem_of_getElem? (i := 364) (by decide +kernel)) rfl
theorem lk_ShareReader_49 : Cond.methodLink R_ShareReader 49 y_NumberForm_firstShifted ∈ zT := zT_of (List.mem_of_getElem? (i := 382) (by decide +kernel)) rfl
theorem d_ShareReader_takeNumber_0 : decode b_ShareReader_takeNumber 0 = .ok (.iload_n 1, 1) := by decide +kernel
theorem d_ShareReader_takeNumber_1 : decode b_ShareReader_takeNumber 1 = .ok (.invokestatic 38, 3) := by decide +kernel
theorem d_ShareReader_takeNumber_4 : decode b_ShareReader_takeNumber 4 = .ok (.istore_n 2, 1) := by decide +kernel
theorem d_ShareReader_takeNumber_5 : decode b_ShareReader_takeNumber 5 = .ok (.iload_n 1, 1) := by decide +kernel
theorem d_ShareReader_takeNumber_6 : decode b_ShareReader_takeNumber 6 = .ok (.invokestatic 43, 3) := by decide +kernel
theorem d_ShareReader_takeNumber_9 : decode b_ShareReader_takeNumber 9 = .ok (.istore_n 3, 1) := by decide +kernel
theorem d_ShareReader_takeNumber_10 : decode b_ShareReader_takeNumber 10 = .ok (.aload_n 0, 1) := by decide +kernel
theorem d_ShareReader_takeNumber_11 : decode b_ShareReader_takeNumber 11 = .ok (.iload_n 2, 1) := by decide +kernel
theorem d_ShareReader_takeNumber_12 : decode b_ShareReader_takeNumber 12 = .ok (.invokevirtual 9, 3) := by decide +kernel
theorem d_ShareReader_takeNumber_15 : decode b_ShareReader_takeNumber 15 = .ok (.ifCond .ne 5, 3) := by decide +kernel
theorem d_ShareReader_takeNumber_18 : decode b_ShareReader_takeNumber 18 = .ok (.iconst (-1), 1) := by decide +kernel
theorem d_ShareReader_takeNumber_19 : decode b_ShareReader_takeNumber 19 = .ok (.ireturn, 1) := by decide +kernel
theorem d_ShareReader_takeNumber_20 : decode b_ShareReader_takeNumber 20 = .ok (.aload_n 0, 1) := by decide +kernel
theorem d_ShareReader_takeNumber_21 : decode b_ShareReader_takeNumber 21 = .ok (.iload_n 2, 1) := by decide +kernel
theorem d_ShareReader_takeNumber_22 : decode b_ShareReader_takeNumber 22 = .ok (.invokevirtual 46, 3) := by decide +kernel
theorem d_ShareReader_takeNumber_25 : decode b_ShareReader_takeNumber 25 = .ok (.iload_n 3, 1) := by decide +kernel
theorem d_ShareReader_takeNumber_26 : decode b_ShareReader_takeNumber 26 = .ok (.if_icmp .ge 9, 3) := by decide +kernel
theorem d_ShareReader_takeNumber_29 : decode b_ShareReader_takeNumber 29 = .ok (.aload_n 0, 1) := by decide +kernel
theorem d_ShareReader_takeNumber_30 : decode b_ShareReader_takeNumber 30 = .ok (.iload_n 2, 1) := by decide +kernel
theorem d_ShareReader_takeNumber_31 : decode b_ShareReader_takeNumber 31 = .ok (.invokevirtual 15, 3) := by decide +kernel
theorem d_ShareReader_takeNumber_34 : decode b_ShareReader_takeNumber 34 = .ok (.ireturn, 1) := by decide +kernel
theorem d_ShareReader_takeNumber_35 : decode b_ShareReader_takeNumber 35 = .ok (.aload_n 0, 1) := by decide +kernel
theorem d_ShareReader_takeNumber_36 : decode b_ShareReader_takeNumber 36 = .ok (.iload_n 2, 1) := by decide +kernel
theorem d_ShareReader_takeNumber_37 : decode b_ShareReader_takeNumber 37 = .ok (.iconst 1, 1) := by decide +kernel
theorem d_ShareReader_takeNumber_38 : decode b_ShareReader_takeNumber 38 = .ok (.iadd, 1) := by decide +kernel
theorem d_ShareReader_takeNumber_39 : decode b_ShareReader_takeNumber 39 = .ok (.invokevirtual 9, 3) := by decide +kernel
theorem d_ShareReader_takeNumber_42 : decode b_ShareReader_takeNumber 42 = .ok (.ifCond .ne 5, 3) := by decide +kernel
theorem d_ShareReader_takeNumber_45 : decode b_ShareReader_takeNumber 45 = .ok (.iconst (-1), 1) := by decide +kernel
theorem d_ShareReader_takeNumber_46 : decode b_ShareReader_takeNumber 46 = .ok (.ireturn, 1) := by decide +kernel
theorem d_ShareReader_takeNumber_47 : decode b_ShareReader_takeNumber 47 = .ok (.aload_n 0, 1) := by decide +kernel
theorem d_ShareReader_takeNumber_48 : decode b_ShareReader_takeNumber 48 = .ok (.iload_n 2, 1) := by decide +kernel
theorem d_ShareReader_takeNumber_49 : decode b_ShareReader_takeNumber 49 = .ok (.iconst 1, 1) := by decide +kernel
theorem d_ShareReader_takeNumber_50 : decode b_ShareReader_takeNumber 50 = .ok (.iadd, 1) := by decide +kernel
theorem d_ShareReader_takeNumber_51 : decode b_ShareReader_takeNumber 51 = .ok (.invokevirtual 15, 3) := by decide +kernel
theorem d_ShareReader_takeNumber_54 : decode b_ShareReader_takeNumber 54 = .ok (.istore 4, 2) := by decide +kernel
theorem d_ShareReader_takeNumber_56 : decode b_ShareReader_takeNumber 56 = .ok (.iload 4, 2) := by decide +kernel
theorem d_ShareReader_takeNumber_58 : decode b_ShareReader_takeNumber 58 = .ok (.iload_n 1, 1) := by decide +kernel
theorem d_ShareReader_takeNumber_59 : decode b_ShareReader_takeNumber 59 = .ok (.invokestatic 49, 3) := by decide +kernel
theorem d_ShareReader_takeNumber_62 : decode b_ShareReader_takeNumber 62 = .ok (.if_icmp .ge 8, 3) := by decide +kernel
theorem d_ShareReader_takeNumber_65 : decode b_ShareReader_takeNumber 65 = .ok (.iload 4, 2) := by decide +kernel
theorem d_ShareReader_takeNumber_67 : decode b_ShareReader_takeNumber 67 = .ok (.goto 7, 3) := by decide +kernel
theorem d_ShareReader_takeNumber_70 : decode b_ShareReader_takeNumber 70 = .ok (.iload 4, 2) := by decide +kernel
theorem d_ShareReader_takeNumber_72 : decode b_ShareReader_takeNumber 72 = .ok (.iload_n 3, 1) := by decide +kernel
theorem d_ShareReader_takeNumber_73 : decode b_ShareReader_takeNumber 73 = .ok (.isub, 1) := by decide +kernel
theorem d_ShareReader_takeNumber_74 : decode b_ShareReader_takeNumber 74 = .ok (.ireturn, 1) := by decide +kernel
theorem d_ShareReader_behindZeros_0 : decode b_ShareReader_behindZeros 0 = .ok (.iload_n 1, 1) := by decide +kernel
theorem d_ShareReader_behindZeros_1 : decode b_ShareReader_behindZeros 1 = .ok (.istore_n 3, 1) := by decide +kernel
theorem d_ShareReader_behindZeros_2 : decode b_ShareReader_behindZeros 2 = .ok (.iload_n 3, 1) := by decide +kernel
theorem d_ShareReader_behindZeros_3 : decode b_ShareReader_behindZeros 3 = .ok (.iload_n 2, 1) := by decide +kernel
theorem d_ShareReader_behindZeros_4 : decode b_ShareReader_behindZeros 4 = .ok (.if_icmp .gt 37, 3) := by decide +kernel
theorem d_ShareReader_behindZeros_7 : decode b_ShareReader_behindZeros 7 = .ok (.aload_n 0, 1) := by decide +kernel
theorem d_ShareReader_behindZeros_8 : decode b_ShareReader_behindZeros 8 = .ok (.iconst 2, 1) := by decide +kernel
theorem d_ShareReader_behindZeros_9 : decode b_ShareReader_behindZeros 9 = .ok (.invokevirtual 9, 3) := by decide +kernel
theorem d_ShareReader_behindZeros_12 : decode b_ShareReader_behindZeros 12 = .ok (.ifCond .ne 5, 3) := by decide +kernel
theorem d_ShareReader_behindZeros_15 : decode b_ShareReader_behindZeros 15 = .ok (.iconst (-1), 1) := by decide +kernel
theorem d_ShareReader_behindZeros_16 : decode b_ShareReader_behindZeros 16 = .ok (.ireturn, 1) := by decide +kernel
theorem d_ShareReader_behindZeros_17 : decode b_ShareReader_behindZeros 17 = .ok (.aload_n 0, 1) := by decide +kernel
theorem d_ShareReader_behindZeros_18 : decode b_ShareReader_behindZeros 18 = .ok (.iconst 2, 1) := by decide +kernel
theorem d_ShareReader_behindZeros_19 : decode b_ShareReader_behindZeros 19 = .ok (.invokevirtual 15, 3) := by decide +kernel
theorem d_ShareReader_behindZeros_22 : decode b_ShareReader_behindZeros 22 = .ok (.istore 4, 2) := by decide +kernel
theorem d_ShareReader_behindZeros_24 : decode b_ShareReader_behindZeros 24 = .ok (.iload 4, 2) := by decide +kernel
theorem d_ShareReader_behindZeros_26 : decode b_ShareReader_behindZeros 26 = .ok (.iconst 3, 1) := by decide +kernel
theorem d_ShareReader_behindZeros_27 : decode b_ShareReader_behindZeros 27 = .ok (.if_icmp .ge 8, 3) := by decide +kernel
theorem d_ShareReader_behindZeros_30 : decode b_ShareReader_behindZeros 30 = .ok (.iload_n 3, 1) := by decide +kernel
theorem d_ShareReader_behindZeros_31 : decode b_ShareReader_behindZeros 31 = .ok (.iload 4, 2) := by decide +kernel
theorem d_ShareReader_behindZeros_33 : decode b_ShareReader_behindZeros 33 = .ok (.iadd, 1) := by decide +kernel
theorem d_ShareReader_behindZeros_34 : decode b_ShareReader_behindZeros 34 = .ok (.ireturn, 1) := by decide +kernel
theorem d_ShareReader_behindZeros_35 : decode b_ShareReader_behindZeros 35 = .ok (.iinc 3 3, 3) := by decide +kernel
theorem d_ShareReader_behindZeros_38 : decode b_ShareReader_behindZeros 38 = .ok (.goto (-36), 3) := by decide +kernel
theorem d_ShareReader_behindZeros_41 : decode b_ShareReader_behindZeros 41 = .ok (.iload_n 3, 1) := by decide +kernel
theorem d_ShareReader_behindZeros_42 : decode b_ShareReader_behindZeros 42 = .ok (.ireturn, 1) := by decide +kernel
abbrev rm_SR_takeNumber : Room := { frames := 4, cells := 0, slots := 0, locals := 89 }
set_option maxHeartbeats 4000000 in
set_option maxRecDepth 100000 in
theorem c_SR_takeNumber (l : Launch) (D : va_G) (cI cB cZ : ClassId) (sz : Nat) (h : Nat) (hb : Nat) (L : Int) (hd : Int) (hn : Int) (ov : Int) (ts : Int) (tb : Int) (f : Nat → Int) (R1 : Int) (hT : 0 ≤ L ∧ L ≤ 6000 ∧ 0 ≤ ts ∧ ts ≤ L ∧ 0 ≤ tb ∧ tb ≤ 48000) (hR : 1 ≤ R1 ∧ R1 ≤ 4096) : Met l y_ShareReader_takeNumber (.code y_ShareReader_takeNumber b_ShareReader_takeNumber 5 (some .int) :: zT) rm_SR_takeNumber (zPc D classes (TY cI cB cZ) [(h, .inr (0, [.ref hb, .int (iZ L), .int (iZ hd), .int (iZ hn), .int (iZ ov), .int (iZ ts), .int (iZ tb)])), (hb, .inl (cB, 6000, .inl (zA f)))] sz [.ref h, .int (iZ R1)]) (zFi (S := Int) D classes (fun z u => tkP (fun k => f k % 256) (8 * ts.toNat + tb.toNat) (8 * (L - ts) - tb) R1 z tb u) (fun u => [(h, .inr (0, [.ref hb, .int (iZ L), .int (iZ hd), .int (iZ hn), .int (iZ ov), .int (iZ ts), .int (iZ u)])), (hb, .inl (cB, 6000, .inl (zA f)))]) (va_A [(h, .inr (0, [.ref hb, .int (iZ L), .int (iZ hd), .int (iZ hn), .int (iZ ov), .int (iZ ts), .int (iZ tb)])), (hb, .inl (cB, 6000, .inl (zA f)))] sz)) 0 0 (va_A [(h, .inr (0, [.ref hb, .int (iZ L), .int (iZ hd), .int (iZ hn), .int (iZ ov), .int (iZ ts), .int (iZ tb)])), (hb, .inl (cB, 6000, .inl (zA f)))] sz) := by
  refine z_ofi (by decide) (Nat.le_of_ble_eq_true rfl) (Or.inl rfl) ?_
  intro p e s m args below meth c A Q E jA jK jret H locs jP jD jS ls jl
  obtain ⟨jx, jb, jrt, jml, jown, jts, jlk⟩ := E
  have jown : s.vm.findClass R_ShareReader = some m.cls := jown
  have hkk := numK_le hR.1 hR.2
  have hf := num_facts hR.1 hR.2
  have hnm : numM R1 = 2 * numT R1 - 2 - R1 := rfl
  have hnb := nbI_b (fun k => f k % 256) (8 * ts.toNat + tb.toNat) (numK R1)
  have hct : (2 : Int) ^ numK R1 = numT R1 := rfl
  have jl : lv_has ls 5 [(0, .ref h), (1, .int (iZ R1))] := jl
  refine lv_iload_n jx jb d_ShareReader_takeNumber_0 rfl (lv_at jl 1 rfl) ?_
  refine z_backe (va_runS (As := [.int (iZ R1)]) (rest := []) ⟨jx, jb, jml, jown, jts⟩ (c_NF_shortBits l D cI cB cZ R1 (by first | assumption | omega)) (zc_S 1 jts cd_NumberForm_shortBits lk_ShareReader_38 st_NumberForm_shortBits in_NumberForm hd_NumberForm_shortBits ⟨Nat.le_of_ble_eq_true rfl, Nat.le_of_ble_eq_true rfl⟩ rfl rfl) (z_preSR jK jP [] rfl) rfl rfl jl.1 rfl (lv_room (Nat.le_of_ble_eq_true rfl)) d_ShareReader_takeNumber_1 ⟨Nat.le_of_ble_eq_true rfl, Nat.le_of_ble_eq_true rfl⟩) ?_
  refine lv_istore_n (lv' := [(2, .int (iZ (numK R1 : Int))), (0, .ref h), (1, .int (iZ R1))]) jx jb d_ShareReader_takeNumber_4 rfl jl (by decide) rfl (fun ls jl => ?_)
  refine lv_iload_n jx jb d_ShareReader_takeNumber_5 rfl (lv_at jl 2 rfl) ?_
  refine z_backe (va_runS (As := [.int (iZ R1)]) (rest := []) ⟨jx, jb, jml, jown, jts⟩ (c_NF_firstLong l D cI cB cZ R1 (by first | assumption | omega)) (zc_S 1 jts cd_NumberForm_firstLong lk_ShareReader_43 st_NumberForm_firstLong in_NumberForm hd_NumberForm_firstLong ⟨Nat.le_of_ble_eq_true rfl, Nat.le_of_ble_eq_true rfl⟩ rfl rfl) (z_preSR jK jP [] rfl) rfl rfl jl.1 rfl (lv_room (Nat.le_of_ble_eq_true rfl)) d_ShareReader_takeNumber_6 ⟨Nat.le_of_ble_eq_true rfl, Nat.le_of_ble_eq_true rfl⟩) ?_
  refine lv_istore_n (lv' := [(3, .int (iZ (numM R1))), (2, .int (iZ (numK R1 : Int))), (0, .ref h), (1, .int (iZ R1))]) jx jb d_ShareReader_takeNumber_9 rfl jl (by decide) rfl (fun ls jl => ?_)
  refine lv_aload_n jx jb d_ShareReader_takeNumber_10 rfl (lv_at jl 2 rfl) ?_
  refine lv_iload_n jx jb d_ShareReader_takeNumber_11 rfl (lv_at jl 1 rfl) ?_
  refine z_backr (va_runV (As := [.int (iZ (numK R1 : Int))]) (rest := []) ⟨jx, jb, jml, jown, jts⟩ (c_Row_hasBits l D cI cB cZ h hb L hd hn ov ts tb (numK R1 : Int) (by omega)) (zc_V 1 jts cd_Row_hasBits lk_ShareReader_9 im_Row_hasBits se_Row_hasBits in_Row hd_Row_hasBits ⟨Nat.le_of_ble_eq_true rfl, Nat.le_of_ble_eq_true rfl⟩ rfl rfl) (z_preVR jK jP [0] rfl rfl rfl) rfl rfl jl.1 rfl (lv_room (Nat.le_of_ble_eq_true rfl)) d_ShareReader_takeNumber_12 ⟨Nat.le_of_ble_eq_true rfl, Nat.le_of_ble_eq_true rfl⟩) (fun z12 hz12 => ?_)
  rcases hz12 with ⟨rfl, hq12⟩ | ⟨rfl, hq12⟩
  ·
    refine z_if_ne (tgt := 20) jx jb d_ShareReader_takeNumber_15 (by decide) ⟨by decide, by decide⟩ (fun hc15 => ?_) (fun hc15 => ?_)
    ·
      refine lv_aload_n jx jb d_ShareReader_takeNumber_20 rfl (lv_at jl 2 rfl) ?_
      refine lv_iload_n jx jb d_ShareReader_takeNumber_21 rfl (lv_at jl 1 rfl) ?_
      refine z_backe (va_runV (As := [.int (iZ (numK R1 : Int))]) (rest := []) ⟨jx, jb, jml, jown, jts⟩ (c_Row_nextBits l D cI cB cZ h hb L hd hn ov ts tb f (numK R1) (by omega) (by omega) (by omega)) (zc_V 1 jts cd_Row_nextBits lk_ShareReader_46 im_Row_nextBits se_Row_nextBits in_Row hd_Row_nextBits ⟨Nat.le_of_ble_eq_true rfl, Nat.le_of_ble_eq_true rfl⟩ rfl rfl) (z_preVR jK jP [0, 1] rfl rfl rfl) rfl rfl jl.1 rfl (lv_room (Nat.le_of_ble_eq_true rfl)) d_ShareReader_takeNumber_22 ⟨Nat.le_of_ble_eq_true rfl, Nat.le_of_ble_eq_true rfl⟩) ?_
      refine z_top (nbI (fun k => f k % 256) (8 * ts.toNat + tb.toNat) (numK R1)) (rNum_nb (by omega) (by omega) (by omega)) ?_
      refine lv_iload_n jx jb d_ShareReader_takeNumber_25 rfl (lv_at jl 0 rfl) ?_
      refine z_icmp_ge (tgt := 35) jx jb d_ShareReader_takeNumber_26 (by decide) ⟨⟨by omega, by omega⟩, ⟨by omega, by omega⟩⟩ (fun hc26 => ?_) (fun hc26 => ?_)
      ·
        refine lv_aload_n jx jb d_ShareReader_takeNumber_35 rfl (lv_at jl 2 rfl) ?_
        refine lv_iload_n jx jb d_ShareReader_takeNumber_36 rfl (lv_at jl 1 rfl) ?_
        refine lv_iconst (v := iZ 1) jx jb d_ShareReader_takeNumber_37 rfl ?_
        refine z_iadd jx jb d_ShareReader_takeNumber_38 ?_
        refine z_backr (va_runV (As := [.int (iZ ((numK R1 : Int) + 1))]) (rest := []) ⟨jx, jb, jml, jown, jts⟩ (c_Row_hasBits l D cI cB cZ h hb L hd hn ov ts tb ((numK R1 : Int) + 1) (by omega)) (zc_V 1 jts cd_Row_hasBits lk_ShareReader_9 im_Row_hasBits se_Row_hasBits in_Row hd_Row_hasBits ⟨Nat.le_of_ble_eq_true rfl, Nat.le_of_ble_eq_true rfl⟩ rfl rfl) (z_preVR jK jP [0] rfl rfl rfl) rfl rfl jl.1 rfl (lv_room (Nat.le_of_ble_eq_true rfl)) d_ShareReader_takeNumber_39 ⟨Nat.le_of_ble_eq_true rfl, Nat.le_of_ble_eq_true rfl⟩) (fun z39 hz39 => ?_)
        rcases hz39 with ⟨rfl, hq39⟩ | ⟨rfl, hq39⟩
        ·
          refine z_if_ne (tgt := 47) jx jb d_ShareReader_takeNumber_42 (by decide) ⟨by decide, by decide⟩ (fun hc42 => ?_) (fun hc42 => ?_)
          ·
            refine lv_aload_n jx jb d_ShareReader_takeNumber_47 rfl (lv_at jl 2 rfl) ?_
            refine lv_iload_n jx jb d_ShareReader_takeNumber_48 rfl (lv_at jl 1 rfl) ?_
            refine lv_iconst (v := iZ 1) jx jb d_ShareReader_takeNumber_49 rfl ?_
            refine z_iadd jx jb d_ShareReader_takeNumber_50 ?_
            refine z_backie (wr := []) jP jD jS jA [0, 1] [] rfl rfl (by decide) (by decide) (va_runV (As := [.int (iZ ((numK R1 : Int) + 1))]) (rest := []) ⟨jx, jb, jml, jown, jts⟩ (c_Row_takeBits l D cI cB cZ H.size h hb L hd hn ov ts tb f (numK R1 + 1) (by omega) (by omega) (by omega)) (zc_V 1 jts cd_Row_takeBits lk_ShareReader_15 im_Row_takeBits se_Row_takeBits in_Row hd_Row_takeBits ⟨Nat.le_of_ble_eq_true rfl, Nat.le_of_ble_eq_true rfl⟩ rfl rfl) (z_preV jK jP jD [0, 1] (by decide) rfl rfl rfl rfl) rfl rfl jl.1 rfl (lv_room (Nat.le_of_ble_eq_true rfl)) d_ShareReader_takeNumber_51 ⟨Nat.le_of_ble_eq_true rfl, Nat.le_of_ble_eq_true rfl⟩) (fun u51 H locs jP jD jS => ?_)
            have jP : va_P D classes [(h, .inr (0, [.ref hb, .int (iZ L), .int (iZ hd), .int (iZ hn), .int (iZ ov), .int (iZ ts), .int (iZ (tb + ((numK R1 + 1) : Int)))])), (hb, .inl (cB, 6000, .inl (zA f)))] H := jP.sub [0, 1] rfl
            have jD : va_D A [(h, .inr (0, [.ref hb, .int (iZ L), .int (iZ hd), .int (iZ hn), .int (iZ ov), .int (iZ ts), .int (iZ (tb + ((numK R1 + 1) : Int)))])), (hb, .inl (cB, 6000, .inl (zA f)))] := jD.sub [0, 1] (by decide) rfl
            refine z_top (nbI (fun k => f k % 256) (8 * ts.toNat + tb.toNat) (numK R1 + 1)) (rNum_nb (by omega) (by omega) (by omega)) ?_
            have hsp := nb_sp (fun k => f k % 256) (8 * ts.toNat + tb.toNat) R1
            refine lv_istore (lv' := [(4, .int (iZ (nbI (fun k => f k % 256) (8 * ts.toNat + tb.toNat) (numK R1 + 1)))), (3, .int (iZ (numM R1))), (2, .int (iZ (numK R1 : Int))), (0, .ref h), (1, .int (iZ R1))]) jx jb d_ShareReader_takeNumber_54 jl (by decide) rfl (fun ls jl => ?_)
            refine lv_iload jx jb d_ShareReader_takeNumber_56 (lv_at jl 0 rfl) ?_
            refine lv_iload_n jx jb d_ShareReader_takeNumber_58 rfl (lv_at jl 4 rfl) ?_
            refine z_backe (va_runS (As := [.int (iZ R1)]) (rest := [.int (iZ (nbI (fun k => f k % 256) (8 * ts.toNat + tb.toNat) (numK R1 + 1)))]) ⟨jx, jb, jml, jown, jts⟩ (c_NF_firstShifted l D cI cB cZ R1 (by first | assumption | omega)) (zc_S 1 jts cd_NumberForm_firstShifted lk_ShareReader_49 st_NumberForm_firstShifted in_NumberForm hd_NumberForm_firstShifted ⟨Nat.le_of_ble_eq_true rfl, Nat.le_of_ble_eq_true rfl⟩ rfl rfl) (z_preSR jK jP [] rfl) rfl rfl jl.1 rfl (lv_room (Nat.le_of_ble_eq_true rfl)) d_ShareReader_takeNumber_59 ⟨Nat.le_of_ble_eq_true rfl, Nat.le_of_ble_eq_true rfl⟩) ?_
            refine z_icmp_ge (tgt := 70) jx jb d_ShareReader_takeNumber_62 (by decide) ⟨⟨by omega, by omega⟩, ⟨by omega, by omega⟩⟩ (fun hc62 => ?_) (fun hc62 => ?_)
            ·
              have htk := tk_4 (b := (fun k => f k % 256)) (q := (8 * ts.toNat + tb.toNat)) (av := (8 * (L - ts) - tb)) (R := R1) (by omega) (by omega) (by omega)
              refine lv_iload jx jb d_ShareReader_takeNumber_70 (lv_at jl 0 rfl) ?_
              refine lv_iload_n jx jb d_ShareReader_takeNumber_72 rfl (lv_at jl 1 rfl) ?_
              refine z_isub jx jb d_ShareReader_takeNumber_73 ?_
              exact jret _ _ _ ((tb + ((numK R1 + 1) : Int))) _ _ (Or.inl rfl) (⟨by rw [htk.1]; omega, fun _ => ⟨by omega, by omega, by rw [htk.2]; omega⟩, by omega, by omega⟩) (jP.sub [0, 1] rfl) (jD.sub [0, 1] (by decide) rfl) jS d_ShareReader_takeNumber_74
            ·
              have htk := tk_3 (b := (fun k => f k % 256)) (q := (8 * ts.toNat + tb.toNat)) (av := (8 * (L - ts) - tb)) (R := R1) (by omega) (by omega) (by omega)
              refine lv_iload jx jb d_ShareReader_takeNumber_65 (lv_at jl 0 rfl) ?_
              refine lv_goto (tgt := 74) jx jb d_ShareReader_takeNumber_67 (by decide) ?_
              exact jret _ _ _ ((tb + ((numK R1 + 1) : Int))) _ _ (Or.inl rfl) (⟨by rw [htk.1]; omega, fun _ => ⟨by omega, by omega, by rw [htk.2]; omega⟩, by omega, by omega⟩) (jP.sub [0, 1] rfl) (jD.sub [0, 1] (by decide) rfl) jS d_ShareReader_takeNumber_74
          ·
            exact absurd hc42 (by decide)
        ·
          refine z_if_ne (tgt := 47) jx jb d_ShareReader_takeNumber_42 (by decide) ⟨by decide, by decide⟩ (fun hc42 => ?_) (fun hc42 => ?_)
          ·
            exact absurd hc42 (by decide)
          ·
            refine lv_iconst (v := iZ (-1)) jx jb d_ShareReader_takeNumber_45 rfl ?_
            exact jret _ _ _ (tb) _ _ (Or.inl rfl) (⟨(tk_2 (by omega) (by omega) (by omega)).symm, fun q => absurd rfl q, by omega, by omega⟩) (jP.sub [0, 1] rfl) (jD.sub [0, 1] (by decide) rfl) jS d_ShareReader_takeNumber_46
      ·
        refine lv_aload_n jx jb d_ShareReader_takeNumber_29 rfl (lv_at jl 2 rfl) ?_
        refine lv_iload_n jx jb d_ShareReader_takeNumber_30 rfl (lv_at jl 1 rfl) ?_
        refine z_backie (wr := []) jP jD jS jA [0, 1] [] rfl rfl (by decide) (by decide) (va_runV (As := [.int (iZ (numK R1 : Int))]) (rest := []) ⟨jx, jb, jml, jown, jts⟩ (c_Row_takeBits l D cI cB cZ H.size h hb L hd hn ov ts tb f (numK R1) (by omega) (by omega) (by omega)) (zc_V 1 jts cd_Row_takeBits lk_ShareReader_15 im_Row_takeBits se_Row_takeBits in_Row hd_Row_takeBits ⟨Nat.le_of_ble_eq_true rfl, Nat.le_of_ble_eq_true rfl⟩ rfl rfl) (z_preV jK jP jD [0, 1] (by decide) rfl rfl rfl rfl) rfl rfl jl.1 rfl (lv_room (Nat.le_of_ble_eq_true rfl)) d_ShareReader_takeNumber_31 ⟨Nat.le_of_ble_eq_true rfl, Nat.le_of_ble_eq_true rfl⟩) (fun u31 H locs jP jD jS => ?_)
        have jP : va_P D classes [(h, .inr (0, [.ref hb, .int (iZ L), .int (iZ hd), .int (iZ hn), .int (iZ ov), .int (iZ ts), .int (iZ (tb + ((numK R1) : Int)))])), (hb, .inl (cB, 6000, .inl (zA f)))] H := jP.sub [0, 1] rfl
        have jD : va_D A [(h, .inr (0, [.ref hb, .int (iZ L), .int (iZ hd), .int (iZ hn), .int (iZ ov), .int (iZ ts), .int (iZ (tb + ((numK R1) : Int)))])), (hb, .inl (cB, 6000, .inl (zA f)))] := jD.sub [0, 1] (by decide) rfl
        refine z_top (nbI (fun k => f k % 256) (8 * ts.toNat + tb.toNat) (numK R1)) (rNum_nb (by omega) (by omega) (by omega)) ?_
        have htk := tk_1 (b := (fun k => f k % 256)) (q := (8 * ts.toNat + tb.toNat)) (av := (8 * (L - ts) - tb)) (R := R1) (by omega) hc26
        exact jret _ _ _ ((tb + ((numK R1) : Int))) _ _ (Or.inl rfl) (⟨htk.1.symm, fun _ => ⟨by omega, by omega, by rw [htk.2]⟩, by omega, by omega⟩) (jP.sub [0, 1] rfl) (jD.sub [0, 1] (by decide) rfl) jS d_ShareReader_takeNumber_34
    ·
      exact absurd hc15 (by decide)
  ·
    refine z_if_ne (tgt := 20) jx jb d_ShareReader_takeNumber_15 (by decide) ⟨by decide, by decide⟩ (fun hc15 => ?_) (fun hc15 => ?_)
    ·
      exact absurd hc15 (by decide)
    ·
      refine lv_iconst (v := iZ (-1)) jx jb d_ShareReader_takeNumber_18 rfl ?_
      exact jret _ _ _ (tb) _ _ (Or.inl rfl) (⟨(tk_0 (by omega)).symm, fun q => absurd rfl q, by omega, by omega⟩) (jP.sub [0, 1] rfl) (jD.sub [0, 1] (by decide) rfl) jS d_ShareReader_takeNumber_19
abbrev rm_SR_behindZeros : Room := { frames := 4, cells := 0, slots := 0, locals := 89 }
set_option maxHeartbeats 4000000 in
set_option maxRecDepth 100000 in
theorem c_SR_behindZeros (l : Launch) (D : va_G) (cI cB cZ : ClassId) (sz : Nat) (h : Nat) (hb : Nat) (L : Int) (hd : Int) (hn : Int) (ov : Int) (ts : Int) (f : Nat → Int) (t : Nat) (a : Nat) (y : Nat) (hT : 0 ≤ L ∧ L ≤ 6000 ∧ 0 ≤ ts ∧ ts ≤ L ∧ (t : Int) ≤ 8 * (L - ts)) (hy : y ≤ 255 ∧ a ≤ 256) : Met l y_ShareReader_behindZeros (.code y_ShareReader_behindZeros b_ShareReader_behindZeros 5 (some .int) :: zT) rm_SR_behindZeros (zPc D classes (TY cI cB cZ) [(h, .inr (0, [.ref hb, .int (iZ L), .int (iZ hd), .int (iZ hn), .int (iZ ov), .int (iZ ts), .int (iZ (t : Int))])), (hb, .inl (cB, 6000, .inl (zA f)))] sz [.ref h, .int (iZ (a : Int)), .int (iZ (y : Int))]) (zFi (S := Nat) D classes (fun z u => (z, u) = bz (fun k => f k % 256) (8 * ts.toNat) (8 * (L - ts)) y 256 t a ∧ (u : Int) ≤ 8 * (L - ts)) (fun u => [(h, .inr (0, [.ref hb, .int (iZ L), .int (iZ hd), .int (iZ hn), .int (iZ ov), .int (iZ ts), .int (iZ (u : Int))])), (hb, .inl (cB, 6000, .inl (zA f)))]) (va_A [(h, .inr (0, [.ref hb, .int (iZ L), .int (iZ hd), .int (iZ hn), .int (iZ ov), .int (iZ ts), .int (iZ (t : Int))])), (hb, .inl (cB, 6000, .inl (zA f)))] sz)) 0 0 (va_A [(h, .inr (0, [.ref hb, .int (iZ L), .int (iZ hd), .int (iZ hn), .int (iZ ov), .int (iZ ts), .int (iZ (t : Int))])), (hb, .inl (cB, 6000, .inl (zA f)))] sz) := by
  refine z_ofi (by decide) (Nat.le_of_ble_eq_true rfl) (Or.inl rfl) ?_
  intro p e s m args below meth c A Q E jA jK jret H locs jP jD jS ls jl
  obtain ⟨jx, jb, jrt, jml, jown, jts, jlk⟩ := E
  have jown : s.vm.findClass R_ShareReader = some m.cls := jown
  have jl : lv_has ls 5 [(0, .ref h), (1, .int (iZ (a : Int))), (2, .int (iZ (y : Int)))] := jl
  refine lv_iload_n jx jb d_ShareReader_behindZeros_0 rfl (lv_at jl 1 rfl) ?_
  refine lv_istore_n (lv' := [(3, .int (iZ (a : Int))), (0, .ref h), (1, .int (iZ (a : Int))), (2, .int (iZ (y : Int)))]) jx jb d_ShareReader_behindZeros_1 rfl jl (by decide) rfl (fun ls jl => ?_)
  have hloop2 : ∀ (nF : Nat) (v : Nat) (t2 : Nat), 300 - v < nF → (v ≤ 258) → ((t2 : Int) ≤ 8 * (L - ts)) → (bzR (fun k => f k % 256) (8 * ts.toNat) (8 * (L - ts)) y (bz (fun k => f k % 256) (8 * ts.toNat) (8 * (L - ts)) y 256 t a) t2 v) → ∀ (H : Heap) (locs : List Loc), va_P D classes [(h, .inr (0, [.ref hb, .int (iZ L), .int (iZ hd), .int (iZ hn), .int (iZ ov), .int (iZ ts), .int (iZ (t2 : Int))])), (hb, .inl (cB, 6000, .inl (zA f)))] H → va_D A [(h, .inr (0, [.ref hb, .int (iZ L), .int (iZ hd), .int (iZ hn), .int (iZ ov), .int (iZ ts), .int (iZ (t2 : Int))])), (hb, .inl (cB, 6000, .inl (zA f)))] → va_S A s.heap H locs → ∀ ls : Array Slot, lv_has ls 5 [(0, .ref h), (1, .int (iZ (a : Int))), (2, .int (iZ (y : Int))), (3, .int (iZ (v : Int)))] → W p l e rm_SR_behindZeros s m args below meth c H locs 0 0 Q (F0 m 2 ls []) := by
    intro nF
    induction nF with
    | zero => intro v t2 hm; exact absurd hm (Nat.not_lt_zero _)
    | succ nF ih2 =>
      intro v t2 hm hv ht2 hR H locs jP jD jS ls jl
      refine lv_iload_n jx jb d_ShareReader_behindZeros_2 rfl (lv_at jl 3 rfl) ?_
      refine lv_iload_n jx jb d_ShareReader_behindZeros_3 rfl (lv_at jl 2 rfl) ?_
      refine z_icmp_gt (tgt := 41) jx jb d_ShareReader_behindZeros_4 (by decide) ⟨⟨by omega, by omega⟩, ⟨by omega, by omega⟩⟩ (fun hc4 => ?_) (fun hc4 => ?_)
      ·
        refine lv_iload_n jx jb d_ShareReader_behindZeros_41 rfl (lv_at jl 3 rfl) ?_
        exact jret _ _ _ (t2) _ _ (Or.inl rfl) (⟨(bzR_out hR (by omega)).symm, ht2⟩) (jP.sub [0, 1] rfl) (jD.sub [0, 1] (by decide) rfl) jS d_ShareReader_behindZeros_42
      ·
        refine lv_aload_n jx jb d_ShareReader_behindZeros_7 rfl (lv_at jl 0 rfl) ?_
        refine lv_iconst (v := iZ 2) jx jb d_ShareReader_behindZeros_8 rfl ?_
        refine z_backr (va_runV (As := [.int (iZ 2)]) (rest := []) ⟨jx, jb, jml, jown, jts⟩ (c_Row_hasBits l D cI cB cZ h hb L hd hn ov ts (t2 : Int) 2 (by omega)) (zc_V 1 jts cd_Row_hasBits lk_ShareReader_9 im_Row_hasBits se_Row_hasBits in_Row hd_Row_hasBits ⟨Nat.le_of_ble_eq_true rfl, Nat.le_of_ble_eq_true rfl⟩ rfl rfl) (z_preVR jK jP [0] rfl rfl rfl) rfl rfl jl.1 rfl (lv_room (Nat.le_of_ble_eq_true rfl)) d_ShareReader_behindZeros_9 ⟨Nat.le_of_ble_eq_true rfl, Nat.le_of_ble_eq_true rfl⟩) (fun z9 hz9 => ?_)
        rcases hz9 with ⟨rfl, hq9⟩ | ⟨rfl, hq9⟩
        ·
          refine z_if_ne (tgt := 17) jx jb d_ShareReader_behindZeros_12 (by decide) ⟨by decide, by decide⟩ (fun hc12 => ?_) (fun hc12 => ?_)
          ·
            refine lv_aload_n jx jb d_ShareReader_behindZeros_17 rfl (lv_at jl 0 rfl) ?_
            refine lv_iconst (v := iZ 2) jx jb d_ShareReader_behindZeros_18 rfl ?_
            refine z_backie (wr := []) jP jD jS jA [0, 1] [] rfl rfl (by decide) (by decide) (va_runV (As := [.int (iZ 2)]) (rest := []) ⟨jx, jb, jml, jown, jts⟩ (c_Row_takeBits l D cI cB cZ H.size h hb L hd hn ov ts (t2 : Int) f 2 (by omega) (by omega) (by decide)) (zc_V 1 jts cd_Row_takeBits lk_ShareReader_15 im_Row_takeBits se_Row_takeBits in_Row hd_Row_takeBits ⟨Nat.le_of_ble_eq_true rfl, Nat.le_of_ble_eq_true rfl⟩ rfl rfl) (z_preV jK jP jD [0, 1] (by decide) rfl rfl rfl rfl) rfl rfl jl.1 rfl (lv_room (Nat.le_of_ble_eq_true rfl)) d_ShareReader_behindZeros_19 ⟨Nat.le_of_ble_eq_true rfl, Nat.le_of_ble_eq_true rfl⟩) (fun u19 H locs jP jD jS => ?_)
            have jP : va_P D classes [(h, .inr (0, [.ref hb, .int (iZ L), .int (iZ hd), .int (iZ hn), .int (iZ ov), .int (iZ ts), .int (iZ ((t2 : Int) + (2 : Int)))])), (hb, .inl (cB, 6000, .inl (zA f)))] H := jP.sub [0, 1] rfl
            have jD : va_D A [(h, .inr (0, [.ref hb, .int (iZ L), .int (iZ hd), .int (iZ hn), .int (iZ ov), .int (iZ ts), .int (iZ ((t2 : Int) + (2 : Int)))])), (hb, .inl (cB, 6000, .inl (zA f)))] := jD.sub [0, 1] (by decide) rfl
            have jP : va_P D classes [(h, .inr (0, [.ref hb, .int (iZ L), .int (iZ hd), .int (iZ hn), .int (iZ ov), .int (iZ ts), .int (iZ ((t2 + 2 : Nat) : Int))])), (hb, .inl (cB, 6000, .inl (zA f)))] H := jP
            have jD : va_D A [(h, .inr (0, [.ref hb, .int (iZ L), .int (iZ hd), .int (iZ hn), .int (iZ ov), .int (iZ ts), .int (iZ ((t2 + 2 : Nat) : Int))])), (hb, .inl (cB, 6000, .inl (zA f)))] := jD
            refine z_top (nbI (fun k => f k % 256) (8 * ts.toNat + t2) 2) (rNum_nb (n := 2) (by omega) (by omega) (by omega)) ?_
            have hnb := nbI_b (fun k => f k % 256) (8 * ts.toNat + t2) 2
            refine lv_istore (lv' := [(4, .int (iZ (nbI (fun k => f k % 256) (8 * ts.toNat + t2) 2))), (0, .ref h), (1, .int (iZ (a : Int))), (2, .int (iZ (y : Int))), (3, .int (iZ (v : Int)))]) jx jb d_ShareReader_behindZeros_22 jl (by decide) rfl (fun ls jl => ?_)
            refine lv_iload jx jb d_ShareReader_behindZeros_24 (lv_at jl 0 rfl) ?_
            refine lv_iconst (v := iZ 3) jx jb d_ShareReader_behindZeros_26 rfl ?_
            refine z_icmp_ge (tgt := 35) jx jb d_ShareReader_behindZeros_27 (by decide) ⟨⟨by omega, by omega⟩, ⟨by decide, by decide⟩⟩ (fun hc27 => ?_) (fun hc27 => ?_)
            ·
              refine lv_iinc (v := iZ ((v + 3 : Nat) : Int)) (lv' := [(3, .int (iZ ((v + 3 : Nat) : Int))), (4, .int (iZ (nbI (fun k => f k % 256) (8 * ts.toNat + t2) 2))), (0, .ref h), (1, .int (iZ (a : Int))), (2, .int (iZ (y : Int)))]) jx jb d_ShareReader_behindZeros_35 jl (k := 4) rfl (by rw [show ((v + 3 : Nat) : Int) = (v : Int) + 3 from by omega]; exact iZ_add _ _) (by decide) rfl (fun ls jl => ?_)
              refine lv_goto (tgt := 2) jx jb d_ShareReader_behindZeros_38 (by decide) ?_
              exact ih2 (v + 3) (t2 + 2) (by omega) (by first | assumption | omega) (by first | assumption | omega) (bzR_go hR hy.1 (by omega) (by omega) (by omega)) _ _ (jP.sub [0, 1] rfl) (jD.sub [0, 1] (by decide) rfl) jS _ (lv_sub jl [2, 3, 4, 0] rfl)
            ·
              refine lv_iload_n jx jb d_ShareReader_behindZeros_30 rfl (lv_at jl 4 rfl) ?_
              refine lv_iload jx jb d_ShareReader_behindZeros_31 (lv_at jl 0 rfl) ?_
              refine z_iadd jx jb d_ShareReader_behindZeros_33 ?_
              exact jret _ _ _ ((t2 + 2 : Nat)) _ _ (Or.inl rfl) (⟨(bzR_ret hR hy.1 (by omega) (by omega) (by omega)).symm, by omega⟩) (jP.sub [0, 1] rfl) (jD.sub [0, 1] (by decide) rfl) jS d_ShareReader_behindZeros_34
          ·
            exact absurd hc12 (by decide)
        ·
          refine z_if_ne (tgt := 17) jx jb d_ShareReader_behindZeros_12 (by decide) ⟨by decide, by decide⟩ (fun hc12 => ?_) (fun hc12 => ?_)
          ·
            exact absurd hc12 (by decide)
          ·
            refine lv_iconst (v := iZ (-1)) jx jb d_ShareReader_behindZeros_15 rfl ?_
            exact jret _ _ _ (t2) _ _ (Or.inl rfl) (⟨(bzR_lack hR hy.1 (by omega) (by omega)).symm, by omega⟩) (jP.sub [0, 1] rfl) (jD.sub [0, 1] (by decide) rfl) jS d_ShareReader_behindZeros_16
  exact hloop2 ((300 - a) + 1) a t (Nat.lt_succ_self _) (by first | assumption | omega) (by first | assumption | omega) (bzR_0) _ _ (jP.sub [0, 1] rfl) (jD.sub [0, 1] (by decide) rfl) jS _ (lv_sub jl [1, 2, 3, 0] rfl)
