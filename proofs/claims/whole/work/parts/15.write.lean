theorem ln_NumberForm_7 : Cond.methodLinkNest R_NumberForm 7 y_SC_exponent R_SC ∈ lw_tbl := List.mem_of_getElem? (i := 335) (by decide +kernel)
theorem cd_NumberForm_shortBits : Cond.code y_NumberForm_shortBits b_NumberForm_shortBits 1 (some .int) ∈ zT := zT_of (List.mem_of_getElem? (i := 334) (by decide +kernel)) rfl
theorem in_NumberForm : Cond.initialized R_NumberForm ∈ zT := zT_of (List.mem_of_getElem? (i := 43) (by decide +kernel)) rfl
theorem hd_NumberForm_shortBits : y_NumberForm_shortBits.cls ≠ "java/lang/invoke/MethodHandle" ∧ y_NumberForm_shortBits.cls ≠ "java/lang/invoke/VarHandle" ∧ (parseMethodDescriptor y_NumberForm_shortBits.desc).map (fun d => d.parameters.length) = some 1 := by decide +kernel
theorem lk_NumberForm_13 : Cond.methodLink R_NumberForm 13 y_NumberForm_shortBits ∈ zT := zT_of (List.mem_of_getElem? (i := 332) (by decide +kernel)) rfl
theorem st_NumberForm_shortBits : Cond.static y_NumberForm_shortBits ∈ zT := zT_of (List.mem_of_getElem? (i := 333) (by decide +kernel)) rfl
theorem cd_NumberForm_firstShifted : Cond.code y_NumberForm_firstShifted b_NumberForm_firstShifted 1 (some .int) ∈ zT := zT_of (List.mem_of_getElem? (i := 331) (by decide +kernel)) rfl
theorem hd_NumberForm_firstShifted : y_NumberForm_firstShifted.cls ≠ "java/lang/invoke/MethodHandle" ∧ y_NumberForm_firstShifted.cls ≠ "java/lang/invoke/VarHandle" ∧ (parseMethodDescriptor y_NumberForm_firstShifted.desc).map (fun d => d.parameters.length) = some 1 := by decide +kernel
theorem lk_NumberForm_18 : Cond.methodLink R_NumberForm 18 y_NumberForm_firstShifted ∈ zT := zT_of (List.mem_of_getElem? (i := 329) (by decide +kernel)) rfl
theorem st_NumberForm_firstShifted : Cond.static y_NumberForm_firstShifted ∈ zT := zT_of (List.mem_of_getElem? (i := 330) (by decide +kernel)) rfl
theorem cd_NumberForm_firstLong : Cond.code y_NumberForm_firstLong b_NumberForm_firstLong 1 (some .int) ∈ zT := zT_of (List.mem_of_getElem? (i := 328) (by decide +kernel)) rfl
theorem hd_NumberForm_firstLong : y_NumberForm_firstLong.cls ≠ "java/lang/invoke/MethodHandle" ∧ y_NumberForm_firstLong.cls ≠ "java/lang/invoke/VarHandle" ∧ (parseMethodDescriptor y_NumberForm_firstLong.desc).map (fun d => d.parameters.length) = some 1 := by decide +kernel
theorem lk_ShareWriter_47 : Cond.methodLink R_ShareWriter 47 y_NumberForm_firstLong ∈ zT := zT_of (List.mem_of_getElem? (i := 326) (by decide +kernel)) rfl
theorem st_NumberForm_firstLong : Cond.static y_NumberForm_firstLong ∈ zT := zT_of (List.mem_of_getElem? (i := 327) (by decide +kernel)) rfl
theorem lk_ShareWriter_55 : Cond.methodLink R_ShareWriter 55 y_NumberForm_firstShifted ∈ zT := zT_of (List.mem_of_getElem? (i := 337) (by decide +kernel)) rfl
theorem lk_ShareWriter_52 : Cond.methodLink R_ShareWriter 52 y_NumberForm_shortBits ∈ zT := zT_of (List.mem_of_getElem? (i := 336) (by decide +kernel)) rfl
theorem lk_ShareWriter_20 : Cond.methodLink R_ShareWriter 20 y_Row_putBits ∈ zT := zT_of (List.mem_of_getElem? (i := 316) (by decide +kernel)) rfl
theorem d_NumberForm_shortBits_0 : decode b_NumberForm_shortBits 0 = .ok (.iload_n 0, 1) := by decide +kernel
theorem d_NumberForm_shortBits_1 : decode b_NumberForm_shortBits 1 = .ok (.iconst 1, 1) := by decide +kernel
theorem d_NumberForm_shortBits_2 : decode b_NumberForm_shortBits 2 = .ok (.iadd, 1) := by decide +kernel
theorem d_NumberForm_shortBits_3 : decode b_NumberForm_shortBits 3 = .ok (.invokestatic 7, 3) := by decide +kernel
theorem d_NumberForm_shortBits_6 : decode b_NumberForm_shortBits 6 = .ok (.ireturn, 1) := by decide +kernel
theorem d_NumberForm_firstShifted_0 : decode b_NumberForm_firstShifted 0 = .ok (.iconst 1, 1) := by decide +kernel
theorem d_NumberForm_firstShifted_1 : decode b_NumberForm_firstShifted 1 = .ok (.iload_n 0, 1) := by decide +kernel
theorem d_NumberForm_firstShifted_2 : decode b_NumberForm_firstShifted 2 = .ok (.invokestatic 13, 3) := by decide +kernel
theorem d_NumberForm_firstShifted_5 : decode b_NumberForm_firstShifted 5 = .ok (.ishl, 1) := by decide +kernel
theorem d_NumberForm_firstShifted_6 : decode b_NumberForm_firstShifted 6 = .ok (.ireturn, 1) := by decide +kernel
theorem d_NumberForm_firstLong_0 : decode b_NumberForm_firstLong 0 = .ok (.iconst 2, 1) := by decide +kernel
theorem d_NumberForm_firstLong_1 : decode b_NumberForm_firstLong 1 = .ok (.iload_n 0, 1) := by decide +kernel
theorem d_NumberForm_firstLong_2 : decode b_NumberForm_firstLong 2 = .ok (.invokestatic 18, 3) := by decide +kernel
theorem d_NumberForm_firstLong_5 : decode b_NumberForm_firstLong 5 = .ok (.imul, 1) := by decide +kernel
theorem d_NumberForm_firstLong_6 : decode b_NumberForm_firstLong 6 = .ok (.iconst 2, 1) := by decide +kernel
theorem d_NumberForm_firstLong_7 : decode b_NumberForm_firstLong 7 = .ok (.isub, 1) := by decide +kernel
theorem d_NumberForm_firstLong_8 : decode b_NumberForm_firstLong 8 = .ok (.iload_n 0, 1) := by decide +kernel
theorem d_NumberForm_firstLong_9 : decode b_NumberForm_firstLong 9 = .ok (.isub, 1) := by decide +kernel
theorem d_NumberForm_firstLong_10 : decode b_NumberForm_firstLong 10 = .ok (.ireturn, 1) := by decide +kernel
theorem d_ShareWriter_putNumber_0 : decode b_ShareWriter_putNumber 0 = .ok (.iload_n 1, 1) := by decide +kernel
theorem d_ShareWriter_putNumber_1 : decode b_ShareWriter_putNumber 1 = .ok (.invokestatic 47, 3) := by decide +kernel
theorem d_ShareWriter_putNumber_4 : decode b_ShareWriter_putNumber 4 = .ok (.istore_n 3, 1) := by decide +kernel
theorem d_ShareWriter_putNumber_5 : decode b_ShareWriter_putNumber 5 = .ok (.iload_n 0, 1) := by decide +kernel
theorem d_ShareWriter_putNumber_6 : decode b_ShareWriter_putNumber 6 = .ok (.iload_n 3, 1) := by decide +kernel
theorem d_ShareWriter_putNumber_7 : decode b_ShareWriter_putNumber 7 = .ok (.if_icmp .ge 15, 3) := by decide +kernel
theorem d_ShareWriter_putNumber_10 : decode b_ShareWriter_putNumber 10 = .ok (.aload_n 2, 1) := by decide +kernel
theorem d_ShareWriter_putNumber_11 : decode b_ShareWriter_putNumber 11 = .ok (.iload_n 0, 1) := by decide +kernel
theorem d_ShareWriter_putNumber_12 : decode b_ShareWriter_putNumber 12 = .ok (.iload_n 1, 1) := by decide +kernel
theorem d_ShareWriter_putNumber_13 : decode b_ShareWriter_putNumber 13 = .ok (.invokestatic 52, 3) := by decide +kernel
theorem d_ShareWriter_putNumber_16 : decode b_ShareWriter_putNumber 16 = .ok (.invokevirtual 20, 3) := by decide +kernel
theorem d_ShareWriter_putNumber_19 : decode b_ShareWriter_putNumber 19 = .ok (.goto 28, 3) := by decide +kernel
theorem d_ShareWriter_putNumber_22 : decode b_ShareWriter_putNumber 22 = .ok (.aload_n 2, 1) := by decide +kernel
theorem d_ShareWriter_putNumber_23 : decode b_ShareWriter_putNumber 23 = .ok (.iload_n 0, 1) := by decide +kernel
theorem d_ShareWriter_putNumber_24 : decode b_ShareWriter_putNumber 24 = .ok (.iload_n 1, 1) := by decide +kernel
theorem d_ShareWriter_putNumber_25 : decode b_ShareWriter_putNumber 25 = .ok (.invokestatic 55, 3) := by decide +kernel
theorem d_ShareWriter_putNumber_28 : decode b_ShareWriter_putNumber 28 = .ok (.if_icmp .ge 7, 3) := by decide +kernel
theorem d_ShareWriter_putNumber_31 : decode b_ShareWriter_putNumber 31 = .ok (.iload_n 0, 1) := by decide +kernel
theorem d_ShareWriter_putNumber_32 : decode b_ShareWriter_putNumber 32 = .ok (.goto 6, 3) := by decide +kernel
theorem d_ShareWriter_putNumber_35 : decode b_ShareWriter_putNumber 35 = .ok (.iload_n 0, 1) := by decide +kernel
theorem d_ShareWriter_putNumber_36 : decode b_ShareWriter_putNumber 36 = .ok (.iload_n 3, 1) := by decide +kernel
theorem d_ShareWriter_putNumber_37 : decode b_ShareWriter_putNumber 37 = .ok (.iadd, 1) := by decide +kernel
theorem d_ShareWriter_putNumber_38 : decode b_ShareWriter_putNumber 38 = .ok (.iload_n 1, 1) := by decide +kernel
theorem d_ShareWriter_putNumber_39 : decode b_ShareWriter_putNumber 39 = .ok (.invokestatic 52, 3) := by decide +kernel
theorem d_ShareWriter_putNumber_42 : decode b_ShareWriter_putNumber 42 = .ok (.iconst 1, 1) := by decide +kernel
theorem d_ShareWriter_putNumber_43 : decode b_ShareWriter_putNumber 43 = .ok (.iadd, 1) := by decide +kernel
theorem d_ShareWriter_putNumber_44 : decode b_ShareWriter_putNumber 44 = .ok (.invokevirtual 20, 3) := by decide +kernel
theorem d_ShareWriter_putNumber_47 : decode b_ShareWriter_putNumber 47 = .ok (.return_, 1) := by decide +kernel
abbrev rm_NF_shortBits : Room := { frames := 1, cells := 0, slots := 0, locals := 21 }
set_option maxHeartbeats 4000000 in
set_option maxRecDepth 100000 in
theorem c_NF_shortBits (l : Launch) (D : va_G) (cI cB cZ : ClassId) (R1 : Int) (hR : 0 ≤ R1 ∧ R1 ≤ 100000) : Met l y_NumberForm_shortBits (.code y_NumberForm_shortBits b_NumberForm_shortBits 1 (some .int) :: zT) rm_NF_shortBits (zRc D classes (TY cI cB cZ) [] [.int (iZ R1)]) (zSi (fun z => z = (numK R1 : Int))) 0 0 (fun _ => False) := by
  refine z_ofr (by decide) (Nat.le_of_ble_eq_true rfl) (Or.inl rfl) ?_
  intro p e s m args below meth c Q E jP jK jret ls jl
  obtain ⟨jx, jb, jrt, jml, jown, jts, jlk⟩ := E
  have jown : s.vm.findClass R_NumberForm = some m.cls := jown
  have jl : lv_has ls 1 [(0, .int (iZ R1))] := jl
  refine lv_iload_n jx jb d_NumberForm_shortBits_0 rfl (lv_at jl 0 rfl) ?_
  refine lv_iconst (v := iZ 1) jx jb d_NumberForm_shortBits_1 rfl ?_
  refine z_iadd jx jb d_NumberForm_shortBits_2 ?_
  refine z_backe (va_runSN (As := [.int (iZ (R1 + 1))]) (rest := []) ⟨jx, jb, jml, jown, jts⟩ (c_exponent l D cI cB cZ (R1 + 1) (by first | assumption | omega)) (zc_SN 1 jts cd_SC_exponent (jK.nest ln_NumberForm_7 rfl) st_SC_exponent in_SC hd_SC_exponent ⟨Nat.le_of_ble_eq_true rfl, Nat.le_of_ble_eq_true rfl⟩ rfl rfl) (z_preSR jK jP [] rfl) rfl rfl jl.1 rfl (lv_room (Nat.le_of_ble_eq_true rfl)) d_NumberForm_shortBits_3 ⟨Nat.le_of_ble_eq_true rfl, Nat.le_of_ble_eq_true rfl⟩) ?_
  exact jret _ _ _ (Or.inl rfl) (rfl) d_NumberForm_shortBits_6
abbrev rm_NF_firstShifted : Room := { frames := 2, cells := 0, slots := 0, locals := 41 }
set_option maxHeartbeats 4000000 in
set_option maxRecDepth 100000 in
theorem c_NF_firstShifted (l : Launch) (D : va_G) (cI cB cZ : ClassId) (R1 : Int) (hR : 0 ≤ R1 ∧ R1 ≤ 100000) : Met l y_NumberForm_firstShifted (.code y_NumberForm_firstShifted b_NumberForm_firstShifted 1 (some .int) :: zT) rm_NF_firstShifted (zRc D classes (TY cI cB cZ) [] [.int (iZ R1)]) (zSi (fun z => z = numT R1)) 0 0 (fun _ => False) := by
  refine z_ofr (by decide) (Nat.le_of_ble_eq_true rfl) (Or.inl rfl) ?_
  intro p e s m args below meth c Q E jP jK jret ls jl
  obtain ⟨jx, jb, jrt, jml, jown, jts, jlk⟩ := E
  have jown : s.vm.findClass R_NumberForm = some m.cls := jown
  have hk17 := numK_lt hR.1 hR.2
  have jl : lv_has ls 1 [(0, .int (iZ R1))] := jl
  refine lv_iconst (v := iZ 1) jx jb d_NumberForm_firstShifted_0 rfl ?_
  refine lv_iload_n jx jb d_NumberForm_firstShifted_1 rfl (lv_at jl 0 rfl) ?_
  refine z_backe (va_runS (As := [.int (iZ R1)]) (rest := [.int (iZ 1)]) ⟨jx, jb, jml, jown, jts⟩ (c_NF_shortBits l D cI cB cZ R1 (by first | assumption | omega)) (zc_S 1 jts cd_NumberForm_shortBits lk_NumberForm_13 st_NumberForm_shortBits in_NumberForm hd_NumberForm_shortBits ⟨Nat.le_of_ble_eq_true rfl, Nat.le_of_ble_eq_true rfl⟩ rfl rfl) (z_preSR jK jP [] rfl) rfl rfl jl.1 rfl (lv_room (Nat.le_of_ble_eq_true rfl)) d_NumberForm_firstShifted_2 ⟨Nat.le_of_ble_eq_true rfl, Nat.le_of_ble_eq_true rfl⟩) ?_
  refine z_ishl jx jb d_NumberForm_firstShifted_5 (numK R1) (2 ^ (numK R1)) (rfl) (⟨rfl, by omega⟩) ?_
  refine z_top (2 ^ (numK R1)) (Int.one_mul _) ?_
  exact jret _ _ _ (Or.inl rfl) (rfl) d_NumberForm_firstShifted_6
abbrev rm_NF_firstLong : Room := { frames := 3, cells := 0, slots := 0, locals := 61 }
set_option maxHeartbeats 4000000 in
set_option maxRecDepth 100000 in
theorem c_NF_firstLong (l : Launch) (D : va_G) (cI cB cZ : ClassId) (R1 : Int) (hR : 0 ≤ R1 ∧ R1 ≤ 100000) : Met l y_NumberForm_firstLong (.code y_NumberForm_firstLong b_NumberForm_firstLong 1 (some .int) :: zT) rm_NF_firstLong (zRc D classes (TY cI cB cZ) [] [.int (iZ R1)]) (zSi (fun z => z = numM R1)) 0 0 (fun _ => False) := by
  refine z_ofr (by decide) (Nat.le_of_ble_eq_true rfl) (Or.inl rfl) ?_
  intro p e s m args below meth c Q E jP jK jret ls jl
  obtain ⟨jx, jb, jrt, jml, jown, jts, jlk⟩ := E
  have jown : s.vm.findClass R_NumberForm = some m.cls := jown
  have jl : lv_has ls 1 [(0, .int (iZ R1))] := jl
  refine lv_iconst (v := iZ 2) jx jb d_NumberForm_firstLong_0 rfl ?_
  refine lv_iload_n jx jb d_NumberForm_firstLong_1 rfl (lv_at jl 0 rfl) ?_
  refine z_backe (va_runS (As := [.int (iZ R1)]) (rest := [.int (iZ 2)]) ⟨jx, jb, jml, jown, jts⟩ (c_NF_firstShifted l D cI cB cZ R1 (by first | assumption | omega)) (zc_S 1 jts cd_NumberForm_firstShifted lk_NumberForm_18 st_NumberForm_firstShifted in_NumberForm hd_NumberForm_firstShifted ⟨Nat.le_of_ble_eq_true rfl, Nat.le_of_ble_eq_true rfl⟩ rfl rfl) (z_preSR jK jP [] rfl) rfl rfl jl.1 rfl (lv_room (Nat.le_of_ble_eq_true rfl)) d_NumberForm_firstLong_2 ⟨Nat.le_of_ble_eq_true rfl, Nat.le_of_ble_eq_true rfl⟩) ?_
  refine z_imul jx jb d_NumberForm_firstLong_5 ?_
  refine lv_iconst (v := iZ 2) jx jb d_NumberForm_firstLong_6 rfl ?_
  refine z_isub jx jb d_NumberForm_firstLong_7 ?_
  refine lv_iload_n jx jb d_NumberForm_firstLong_8 rfl (lv_at jl 0 rfl) ?_
  refine z_isub jx jb d_NumberForm_firstLong_9 ?_
  exact jret _ _ _ (Or.inl rfl) (rfl) d_NumberForm_firstLong_10
abbrev rm_SW_putNumber : Room := { frames := 4, cells := 0, slots := 0, locals := 81 }
set_option maxHeartbeats 4000000 in
set_option maxRecDepth 100000 in
theorem c_SW_putNumber (l : Launch) (D : va_G) (cI cB cZ : ClassId) (sz : Nat) (h : Nat) (hb : Nat) (L : Int) (hd : Int) (hn : Int) (ov : Int) (ts : Int) (tb : Int) (f : Nat → Int) (V : Nat) (B : Nat) (v : Nat) (R1 : Int) (hI : rI V B (B / 8) L hd hn ov f) (hR : 1 ≤ R1 ∧ R1 ≤ 4096) (hv : (v : Int) ≤ R1 + 1) : Met l y_ShareWriter_putNumber (.code y_ShareWriter_putNumber b_ShareWriter_putNumber 4 none :: zT) rm_SW_putNumber (zPc D classes (TY cI cB cZ) [(h, .inr (0, [.ref hb, .int (iZ L), .int (iZ hd), .int (iZ hn), .int (iZ ov), .int (iZ ts), .int (iZ tb)])), (hb, .inl (cB, 6000, .inl (zA f)))] sz [.int (iZ (v : Int)), .int (iZ R1), .ref h]) (zFv (S := Int × Int × Int × Int × (Nat → Int)) D classes (fun u => rI (V + numX R1 v * 2 ^ B) (B + numN R1 v) ((B + numN R1 v) / 8) u.1 u.2.1 u.2.2.1 u.2.2.2.1 u.2.2.2.2) (fun u => [(h, .inr (0, [.ref hb, .int (iZ u.1), .int (iZ u.2.1), .int (iZ u.2.2.1), .int (iZ u.2.2.2.1), .int (iZ ts), .int (iZ tb)])), (hb, .inl (cB, 6000, .inl (zA u.2.2.2.2)))]) (va_A [(h, .inr (0, [.ref hb, .int (iZ L), .int (iZ hd), .int (iZ hn), .int (iZ ov), .int (iZ ts), .int (iZ tb)])), (hb, .inl (cB, 6000, .inl (zA f)))] sz)) 0 0 (va_A [(h, .inr (0, [.ref hb, .int (iZ L), .int (iZ hd), .int (iZ hn), .int (iZ ov), .int (iZ ts), .int (iZ tb)])), (hb, .inl (cB, 6000, .inl (zA f)))] sz) := by
  refine z_ofv (by decide) (Nat.le_of_ble_eq_true rfl) rfl ?_
  intro p e s m args below meth c A Q E jmn jA jK jret H locs jP jD jS ls jl
  obtain ⟨jx, jb, jrt, jml, jown, jts, jlk⟩ := E
  have jown : s.vm.findClass R_ShareWriter = some m.cls := jown
  have hf := num_facts hR.1 hR.2
  have jl : lv_has ls 4 [(0, .int (iZ (v : Int))), (1, .int (iZ R1)), (2, .ref h)] := jl
  refine lv_iload_n jx jb d_ShareWriter_putNumber_0 rfl (lv_at jl 1 rfl) ?_
  refine z_backe (va_runS (As := [.int (iZ R1)]) (rest := []) ⟨jx, jb, jml, jown, jts⟩ (c_NF_firstLong l D cI cB cZ R1 (by first | assumption | omega)) (zc_S 1 jts cd_NumberForm_firstLong lk_ShareWriter_47 st_NumberForm_firstLong in_NumberForm hd_NumberForm_firstLong ⟨Nat.le_of_ble_eq_true rfl, Nat.le_of_ble_eq_true rfl⟩ rfl rfl) (z_preSR jK jP [] rfl) rfl rfl jl.1 rfl (lv_room (Nat.le_of_ble_eq_true rfl)) d_ShareWriter_putNumber_1 ⟨Nat.le_of_ble_eq_true rfl, Nat.le_of_ble_eq_true rfl⟩) ?_
  refine lv_istore_n (lv' := [(3, .int (iZ (numM R1))), (0, .int (iZ (v : Int))), (1, .int (iZ R1)), (2, .ref h)]) jx jb d_ShareWriter_putNumber_4 rfl jl (by decide) rfl (fun ls jl => ?_)
  refine lv_iload_n jx jb d_ShareWriter_putNumber_5 rfl (lv_at jl 1 rfl) ?_
  refine lv_iload_n jx jb d_ShareWriter_putNumber_6 rfl (lv_at jl 0 rfl) ?_
  have hkk := numK_le hR.1 hR.2
  refine z_icmp_ge (tgt := 22) jx jb d_ShareWriter_putNumber_7 (by decide) ⟨⟨by omega, by omega⟩, ⟨by omega, by omega⟩⟩ (fun hc7 => ?_) (fun hc7 => ?_)
  ·
    refine lv_aload_n jx jb d_ShareWriter_putNumber_22 rfl (lv_at jl 3 rfl) ?_
    refine lv_iload_n jx jb d_ShareWriter_putNumber_23 rfl (lv_at jl 1 rfl) ?_
    refine lv_iload_n jx jb d_ShareWriter_putNumber_24 rfl (lv_at jl 2 rfl) ?_
    refine z_backe (va_runS (As := [.int (iZ R1)]) (rest := [.int (iZ (v : Int)), .ref h]) ⟨jx, jb, jml, jown, jts⟩ (c_NF_firstShifted l D cI cB cZ R1 (by first | assumption | omega)) (zc_S 1 jts cd_NumberForm_firstShifted lk_ShareWriter_55 st_NumberForm_firstShifted in_NumberForm hd_NumberForm_firstShifted ⟨Nat.le_of_ble_eq_true rfl, Nat.le_of_ble_eq_true rfl⟩ rfl rfl) (z_preSR jK jP [] rfl) rfl rfl jl.1 rfl (lv_room (Nat.le_of_ble_eq_true rfl)) d_ShareWriter_putNumber_25 ⟨Nat.le_of_ble_eq_true rfl, Nat.le_of_ble_eq_true rfl⟩) ?_
    refine z_icmp_ge (tgt := 35) jx jb d_ShareWriter_putNumber_28 (by decide) ⟨⟨by omega, by omega⟩, ⟨by omega, by omega⟩⟩ (fun hc28 => ?_) (fun hc28 => ?_)
    ·
      refine lv_iload_n jx jb d_ShareWriter_putNumber_35 rfl (lv_at jl 1 rfl) ?_
      refine lv_iload_n jx jb d_ShareWriter_putNumber_36 rfl (lv_at jl 0 rfl) ?_
      refine z_iadd jx jb d_ShareWriter_putNumber_37 ?_
      refine z_top ((v + (numM R1).toNat : Nat) : Int) (by omega) ?_
      refine lv_iload_n jx jb d_ShareWriter_putNumber_38 rfl (lv_at jl 2 rfl) ?_
      refine z_backe (va_runS (As := [.int (iZ R1)]) (rest := [.int (iZ ((v + (numM R1).toNat : Nat) : Int)), .ref h]) ⟨jx, jb, jml, jown, jts⟩ (c_NF_shortBits l D cI cB cZ R1 (by first | assumption | omega)) (zc_S 1 jts cd_NumberForm_shortBits lk_ShareWriter_52 st_NumberForm_shortBits in_NumberForm hd_NumberForm_shortBits ⟨Nat.le_of_ble_eq_true rfl, Nat.le_of_ble_eq_true rfl⟩ rfl rfl) (z_preSR jK jP [] rfl) rfl rfl jl.1 rfl (lv_room (Nat.le_of_ble_eq_true rfl)) d_ShareWriter_putNumber_39 ⟨Nat.le_of_ble_eq_true rfl, Nat.le_of_ble_eq_true rfl⟩) ?_
      refine lv_iconst (v := iZ 1) jx jb d_ShareWriter_putNumber_42 rfl ?_
      refine z_iadd jx jb d_ShareWriter_putNumber_43 ?_
      refine z_backv (wr := []) jP jD jS jA [0, 1] [] rfl rfl (by decide) (by decide) (va_runV (As := [.int (iZ ((v + (numM R1).toNat : Nat) : Int)), .int (iZ ((numK R1 : Int) + 1))]) (rest := []) ⟨jx, jb, jml, jown, jts⟩ (c_Row_putBits l D cI cB cZ H.size h hb L hd hn ov ts tb f (v + (numM R1).toNat : Nat) (numK R1 + 1) V B (hI) (by first | exact num_x2 hR.1 hR.2 (by omega) | exact num_x3 hR.1 hR.2 (by omega)) (by omega)) (zc_V 2 jts cd_Row_putBits lk_ShareWriter_20 im_Row_putBits se_Row_putBits in_Row hd_Row_putBits ⟨Nat.le_of_ble_eq_true rfl, Nat.le_of_ble_eq_true rfl⟩ rfl rfl) (z_preV jK jP jD [0, 1] (by decide) rfl rfl rfl rfl) rfl rfl jl.1 rfl (lv_room (Nat.le_of_ble_eq_true rfl)) d_ShareWriter_putNumber_44 ⟨Nat.le_of_ble_eq_true rfl, Nat.le_of_ble_eq_true rfl⟩) (fun u44 H locs hu44 jP jD jS => ?_)
      obtain ⟨L1_44, hd1_44, hn1_44, ov1_44, f1_44⟩ := u44
      have jP : va_P D classes [(h, .inr (0, [.ref hb, .int (iZ L1_44), .int (iZ hd1_44), .int (iZ hn1_44), .int (iZ ov1_44), .int (iZ ts), .int (iZ tb)])), (hb, .inl (cB, 6000, .inl (zA f1_44)))] H := jP.sub [0, 1] rfl
      have jD : va_D A [(h, .inr (0, [.ref hb, .int (iZ L1_44), .int (iZ hd1_44), .int (iZ hn1_44), .int (iZ ov1_44), .int (iZ ts), .int (iZ tb)])), (hb, .inl (cB, 6000, .inl (zA f1_44)))] := jD.sub [0, 1] (by decide) rfl
      exact jret _ _ (L1_44, hd1_44, hn1_44, ov1_44, f1_44) _ _ (by first | (rw [numX_1 (by omega), numN_1 (by omega)]; exact hu16) | (rw [numX_2 (by omega) (by omega), numN_2 (by omega)]; exact hu44) | (rw [numX_3 (by omega) (by omega), numN_2 (by omega)]; exact hu44)) (jP.sub [0, 1] rfl) (jD.sub [0, 1] (by decide) rfl) jS d_ShareWriter_putNumber_47
    ·
      refine lv_iload_n jx jb d_ShareWriter_putNumber_31 rfl (lv_at jl 1 rfl) ?_
      refine lv_goto (tgt := 38) jx jb d_ShareWriter_putNumber_32 (by decide) ?_
      refine lv_iload_n jx jb d_ShareWriter_putNumber_38 rfl (lv_at jl 2 rfl) ?_
      refine z_backe (va_runS (As := [.int (iZ R1)]) (rest := [.int (iZ (v : Int)), .ref h]) ⟨jx, jb, jml, jown, jts⟩ (c_NF_shortBits l D cI cB cZ R1 (by first | assumption | omega)) (zc_S 1 jts cd_NumberForm_shortBits lk_ShareWriter_52 st_NumberForm_shortBits in_NumberForm hd_NumberForm_shortBits ⟨Nat.le_of_ble_eq_true rfl, Nat.le_of_ble_eq_true rfl⟩ rfl rfl) (z_preSR jK jP [] rfl) rfl rfl jl.1 rfl (lv_room (Nat.le_of_ble_eq_true rfl)) d_ShareWriter_putNumber_39 ⟨Nat.le_of_ble_eq_true rfl, Nat.le_of_ble_eq_true rfl⟩) ?_
      refine lv_iconst (v := iZ 1) jx jb d_ShareWriter_putNumber_42 rfl ?_
      refine z_iadd jx jb d_ShareWriter_putNumber_43 ?_
      refine z_backv (wr := []) jP jD jS jA [0, 1] [] rfl rfl (by decide) (by decide) (va_runV (As := [.int (iZ (v : Int)), .int (iZ ((numK R1 : Int) + 1))]) (rest := []) ⟨jx, jb, jml, jown, jts⟩ (c_Row_putBits l D cI cB cZ H.size h hb L hd hn ov ts tb f v (numK R1 + 1) V B (hI) (by first | exact num_x2 hR.1 hR.2 (by omega) | exact num_x3 hR.1 hR.2 (by omega)) (by omega)) (zc_V 2 jts cd_Row_putBits lk_ShareWriter_20 im_Row_putBits se_Row_putBits in_Row hd_Row_putBits ⟨Nat.le_of_ble_eq_true rfl, Nat.le_of_ble_eq_true rfl⟩ rfl rfl) (z_preV jK jP jD [0, 1] (by decide) rfl rfl rfl rfl) rfl rfl jl.1 rfl (lv_room (Nat.le_of_ble_eq_true rfl)) d_ShareWriter_putNumber_44 ⟨Nat.le_of_ble_eq_true rfl, Nat.le_of_ble_eq_true rfl⟩) (fun u44 H locs hu44 jP jD jS => ?_)
      obtain ⟨L1_44, hd1_44, hn1_44, ov1_44, f1_44⟩ := u44
      have jP : va_P D classes [(h, .inr (0, [.ref hb, .int (iZ L1_44), .int (iZ hd1_44), .int (iZ hn1_44), .int (iZ ov1_44), .int (iZ ts), .int (iZ tb)])), (hb, .inl (cB, 6000, .inl (zA f1_44)))] H := jP.sub [0, 1] rfl
      have jD : va_D A [(h, .inr (0, [.ref hb, .int (iZ L1_44), .int (iZ hd1_44), .int (iZ hn1_44), .int (iZ ov1_44), .int (iZ ts), .int (iZ tb)])), (hb, .inl (cB, 6000, .inl (zA f1_44)))] := jD.sub [0, 1] (by decide) rfl
      exact jret _ _ (L1_44, hd1_44, hn1_44, ov1_44, f1_44) _ _ (by first | (rw [numX_1 (by omega), numN_1 (by omega)]; exact hu16) | (rw [numX_2 (by omega) (by omega), numN_2 (by omega)]; exact hu44) | (rw [numX_3 (by omega) (by omega), numN_2 (by omega)]; exact hu44)) (jP.sub [0, 1] rfl) (jD.sub [0, 1] (by decide) rfl) jS d_ShareWriter_putNumber_47
  ·
    refine lv_aload_n jx jb d_ShareWriter_putNumber_10 rfl (lv_at jl 3 rfl) ?_
    refine lv_iload_n jx jb d_ShareWriter_putNumber_11 rfl (lv_at jl 1 rfl) ?_
    refine lv_iload_n jx jb d_ShareWriter_putNumber_12 rfl (lv_at jl 2 rfl) ?_
    refine z_backe (va_runS (As := [.int (iZ R1)]) (rest := [.int (iZ (v : Int)), .ref h]) ⟨jx, jb, jml, jown, jts⟩ (c_NF_shortBits l D cI cB cZ R1 (by first | assumption | omega)) (zc_S 1 jts cd_NumberForm_shortBits lk_ShareWriter_52 st_NumberForm_shortBits in_NumberForm hd_NumberForm_shortBits ⟨Nat.le_of_ble_eq_true rfl, Nat.le_of_ble_eq_true rfl⟩ rfl rfl) (z_preSR jK jP [] rfl) rfl rfl jl.1 rfl (lv_room (Nat.le_of_ble_eq_true rfl)) d_ShareWriter_putNumber_13 ⟨Nat.le_of_ble_eq_true rfl, Nat.le_of_ble_eq_true rfl⟩) ?_
    refine z_backv (wr := []) jP jD jS jA [0, 1] [] rfl rfl (by decide) (by decide) (va_runV (As := [.int (iZ (v : Int)), .int (iZ (numK R1 : Int))]) (rest := []) ⟨jx, jb, jml, jown, jts⟩ (c_Row_putBits l D cI cB cZ H.size h hb L hd hn ov ts tb f v (numK R1) V B (hI) (num_x1 hR.1 hR.2 (by omega)) (by omega)) (zc_V 2 jts cd_Row_putBits lk_ShareWriter_20 im_Row_putBits se_Row_putBits in_Row hd_Row_putBits ⟨Nat.le_of_ble_eq_true rfl, Nat.le_of_ble_eq_true rfl⟩ rfl rfl) (z_preV jK jP jD [0, 1] (by decide) rfl rfl rfl rfl) rfl rfl jl.1 rfl (lv_room (Nat.le_of_ble_eq_true rfl)) d_ShareWriter_putNumber_16 ⟨Nat.le_of_ble_eq_true rfl, Nat.le_of_ble_eq_true rfl⟩) (fun u16 H locs hu16 jP jD jS => ?_)
    obtain ⟨L1_16, hd1_16, hn1_16, ov1_16, f1_16⟩ := u16
    have jP : va_P D classes [(h, .inr (0, [.ref hb, .int (iZ L1_16), .int (iZ hd1_16), .int (iZ hn1_16), .int (iZ ov1_16), .int (iZ ts), .int (iZ tb)])), (hb, .inl (cB, 6000, .inl (zA f1_16)))] H := jP.sub [0, 1] rfl
    have jD : va_D A [(h, .inr (0, [.ref hb, .int (iZ L1_16), .int (iZ hd1_16), .int (iZ hn1_16), .int (iZ ov1_16), .int (iZ ts), .int (iZ tb)])), (hb, .inl (cB, 6000, .inl (zA f1_16)))] := jD.sub [0, 1] (by decide) rfl
    refine lv_goto (tgt := 47) jx jb d_ShareWriter_putNumber_19 (by decide) ?_
    exact jret _ _ (L1_16, hd1_16, hn1_16, ov1_16, f1_16) _ _ (by first | (rw [numX_1 (by omega), numN_1 (by omega)]; exact hu16) | (rw [numX_2 (by omega) (by omega), numN_2 (by omega)]; exact hu44) | (rw [numX_3 (by omega) (by omega), numN_2 (by omega)]; exact hu44)) (jP.sub [0, 1] rfl) (jD.sub [0, 1] (by decide) rfl) jS d_ShareWriter_putNumber_47
