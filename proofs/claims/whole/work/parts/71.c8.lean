theorem lk_RowCoder_49 : Cond.methodLink R_RowCoder 49 y_Share_cells ∈ zT := zT_of (List.mem_of_getElem? (i := 447) (by decide +kernel)) rfl
theorem lk_RowCoder_17 : Cond.methodLink R_RowCoder 17 y_Share_weightOf ∈ zT := zT_of (List.mem_of_getElem? (i := 431) (by decide +kernel)) rfl
theorem lk_RowCoder_42 : Cond.methodLink R_RowCoder 42 y_Row_putBits ∈ zT := zT_of (List.mem_of_getElem? (i := 449) (by decide +kernel)) rfl
theorem cd_Share_cellOf : Cond.code y_Share_cellOf b_Share_cellOf 4 (some .int) ∈ zT := zT_of (List.mem_of_getElem? (i := 439) (by decide +kernel)) rfl
theorem hd_Share_cellOf : y_Share_cellOf.cls ≠ "java/lang/invoke/MethodHandle" ∧ y_Share_cellOf.cls ≠ "java/lang/invoke/VarHandle" ∧ (parseMethodDescriptor y_Share_cellOf.desc).map (fun d => d.parameters.length) = some 2 := by decide +kernel
theorem lk_RowCoder_25 : Cond.methodLink R_RowCoder 25 y_Share_cellOf ∈ zT := zT_of (List.mem_of_getElem? (i := 436) (by decide +kernel)) rfl
theorem im_Share_cellOf : Cond.instanceMethod y_Share_cellOf ∈ zT := zT_of (List.mem_of_getElem? (i := 437) (by decide +kernel)) rfl
theorem se_Share_cellOf : Cond.selects R_Share y_Share_cellOf y_Share_cellOf ∈ zT := zT_of (List.mem_of_getElem? (i := 438) (by decide +kernel)) rfl
theorem lk_RowCoder_39 : Cond.methodLink R_RowCoder 39 y_Share_order ∈ zT := zT_of (List.mem_of_getElem? (i := 448) (by decide +kernel)) rfl
theorem lk_RowCoder_7 : Cond.methodLink R_RowCoder 7 y_Row_length ∈ zT := zT_of (List.mem_of_getElem? (i := 429) (by decide +kernel)) rfl
theorem lk_RowCoder_13 : Cond.methodLink R_RowCoder 13 y_Row_byteOrZero ∈ zT := zT_of (List.mem_of_getElem? (i := 430) (by decide +kernel)) rfl
theorem lk_RowCoder_22 : Cond.methodLink R_RowCoder 22 y_Row_empty ∈ zT := zT_of (List.mem_of_getElem? (i := 435) (by decide +kernel)) rfl
theorem lk_RowCoder_46 : Cond.methodLink R_RowCoder 46 y_Row_closeBits ∈ zT := zT_of (List.mem_of_getElem? (i := 450) (by decide +kernel)) rfl
theorem cd_Row_isOverfull : Cond.code y_Row_isOverfull b_Row_isOverfull 1 (some .boolean) ∈ zT := zT_of (List.mem_of_getElem? (i := 443) (by decide +kernel)) rfl
theorem hd_Row_isOverfull : y_Row_isOverfull.cls ≠ "java/lang/invoke/MethodHandle" ∧ y_Row_isOverfull.cls ≠ "java/lang/invoke/VarHandle" ∧ (parseMethodDescriptor y_Row_isOverfull.desc).map (fun d => d.parameters.length) = some 0 := by decide +kernel
theorem lk_RowCoder_29 : Cond.methodLink R_RowCoder 29 y_Row_isOverfull ∈ zT := zT_of (List.mem_of_getElem? (i := 440) (by decide +kernel)) rfl
theorem im_Row_isOverfull : Cond.instanceMethod y_Row_isOverfull ∈ zT := zT_of (List.mem_of_getElem? (i := 441) (by decide +kernel)) rfl
theorem se_Row_isOverfull : Cond.selects R_Row y_Row_isOverfull y_Row_isOverfull ∈ zT := zT_of (List.mem_of_getElem? (i := 442) (by decide +kernel)) rfl
theorem cd_RowCoder_putStep : Cond.code y_RowCoder_putStep b_RowCoder_putStep 7 (some .int) ∈ zT := zT_of (List.mem_of_getElem? (i := 446) (by decide +kernel)) rfl
theorem in_RowCoder : Cond.initialized R_RowCoder ∈ zT := zT_of (List.mem_of_getElem? (i := 45) (by decide +kernel)) rfl
theorem hd_RowCoder_putStep : y_RowCoder_putStep.cls ≠ "java/lang/invoke/MethodHandle" ∧ y_RowCoder_putStep.cls ≠ "java/lang/invoke/VarHandle" ∧ (parseMethodDescriptor y_RowCoder_putStep.desc).map (fun d => d.parameters.length) = some 4 := by decide +kernel
theorem lk_RowCoder_33 : Cond.methodLink R_RowCoder 33 y_RowCoder_putStep ∈ zT := zT_of (List.mem_of_getElem? (i := 444) (by decide +kernel)) rfl
theorem st_RowCoder_putStep : Cond.static y_RowCoder_putStep ∈ zT := zT_of (List.mem_of_getElem? (i := 445) (by decide +kernel)) rfl
theorem d_RowCoder_putStep_0 : decode b_RowCoder_putStep 0 = .ok (.iload_n 1, 1) := by decide +kernel
theorem d_RowCoder_putStep_1 : decode b_RowCoder_putStep 1 = .ok (.aload_n 2, 1) := by decide +kernel
theorem d_RowCoder_putStep_2 : decode b_RowCoder_putStep 2 = .ok (.invokevirtual 49, 3) := by decide +kernel
theorem d_RowCoder_putStep_5 : decode b_RowCoder_putStep 5 = .ok (.iadd, 1) := by decide +kernel
theorem d_RowCoder_putStep_6 : decode b_RowCoder_putStep 6 = .ok (.istore 4, 2) := by decide +kernel
theorem d_RowCoder_putStep_8 : decode b_RowCoder_putStep 8 = .ok (.iconst 2, 1) := by decide +kernel
theorem d_RowCoder_putStep_9 : decode b_RowCoder_putStep 9 = .ok (.aload_n 2, 1) := by decide +kernel
theorem d_RowCoder_putStep_10 : decode b_RowCoder_putStep 10 = .ok (.iload_n 0, 1) := by decide +kernel
theorem d_RowCoder_putStep_11 : decode b_RowCoder_putStep 11 = .ok (.invokevirtual 17, 3) := by decide +kernel
theorem d_RowCoder_putStep_14 : decode b_RowCoder_putStep 14 = .ok (.imul, 1) := by decide +kernel
theorem d_RowCoder_putStep_15 : decode b_RowCoder_putStep 15 = .ok (.istore 5, 2) := by decide +kernel
theorem d_RowCoder_putStep_17 : decode b_RowCoder_putStep 17 = .ok (.iconst 0, 1) := by decide +kernel
theorem d_RowCoder_putStep_18 : decode b_RowCoder_putStep 18 = .ok (.istore 6, 2) := by decide +kernel
theorem d_RowCoder_putStep_20 : decode b_RowCoder_putStep 20 = .ok (.iload 6, 2) := by decide +kernel
theorem d_RowCoder_putStep_22 : decode b_RowCoder_putStep 22 = .ok (.aload_n 2, 1) := by decide +kernel
theorem d_RowCoder_putStep_23 : decode b_RowCoder_putStep 23 = .ok (.invokevirtual 39, 3) := by decide +kernel
theorem d_RowCoder_putStep_26 : decode b_RowCoder_putStep 26 = .ok (.if_icmp .ge 19, 3) := by decide +kernel
theorem d_RowCoder_putStep_29 : decode b_RowCoder_putStep 29 = .ok (.iload 4, 2) := by decide +kernel
theorem d_RowCoder_putStep_31 : decode b_RowCoder_putStep 31 = .ok (.iload 6, 2) := by decide +kernel
theorem d_RowCoder_putStep_33 : decode b_RowCoder_putStep 33 = .ok (.ishr, 1) := by decide +kernel
theorem d_RowCoder_putStep_34 : decode b_RowCoder_putStep 34 = .ok (.iload 5, 2) := by decide +kernel
theorem d_RowCoder_putStep_36 : decode b_RowCoder_putStep 36 = .ok (.if_icmp .lt 9, 3) := by decide +kernel
theorem d_RowCoder_putStep_39 : decode b_RowCoder_putStep 39 = .ok (.iinc 6 1, 3) := by decide +kernel
theorem d_RowCoder_putStep_42 : decode b_RowCoder_putStep 42 = .ok (.goto (-22), 3) := by decide +kernel
theorem d_RowCoder_putStep_45 : decode b_RowCoder_putStep 45 = .ok (.aload_n 3, 1) := by decide +kernel
theorem d_RowCoder_putStep_46 : decode b_RowCoder_putStep 46 = .ok (.iload 4, 2) := by decide +kernel
theorem d_RowCoder_putStep_48 : decode b_RowCoder_putStep 48 = .ok (.iconst 1, 1) := by decide +kernel
theorem d_RowCoder_putStep_49 : decode b_RowCoder_putStep 49 = .ok (.iload 6, 2) := by decide +kernel
theorem d_RowCoder_putStep_51 : decode b_RowCoder_putStep 51 = .ok (.ishl, 1) := by decide +kernel
theorem d_RowCoder_putStep_52 : decode b_RowCoder_putStep 52 = .ok (.iconst 1, 1) := by decide +kernel
theorem d_RowCoder_putStep_53 : decode b_RowCoder_putStep 53 = .ok (.isub, 1) := by decide +kernel
theorem d_RowCoder_putStep_54 : decode b_RowCoder_putStep 54 = .ok (.iand, 1) := by decide +kernel
theorem d_RowCoder_putStep_55 : decode b_RowCoder_putStep 55 = .ok (.iload 6, 2) := by decide +kernel
theorem d_RowCoder_putStep_57 : decode b_RowCoder_putStep 57 = .ok (.invokevirtual 42, 3) := by decide +kernel
theorem d_RowCoder_putStep_60 : decode b_RowCoder_putStep 60 = .ok (.aload_n 2, 1) := by decide +kernel
theorem d_RowCoder_putStep_61 : decode b_RowCoder_putStep 61 = .ok (.iload_n 0, 1) := by decide +kernel
theorem d_RowCoder_putStep_62 : decode b_RowCoder_putStep 62 = .ok (.iload 4, 2) := by decide +kernel
theorem d_RowCoder_putStep_64 : decode b_RowCoder_putStep 64 = .ok (.iload 6, 2) := by decide +kernel
theorem d_RowCoder_putStep_66 : decode b_RowCoder_putStep 66 = .ok (.ishr, 1) := by decide +kernel
theorem d_RowCoder_putStep_67 : decode b_RowCoder_putStep 67 = .ok (.invokevirtual 25, 3) := by decide +kernel
theorem d_RowCoder_putStep_70 : decode b_RowCoder_putStep 70 = .ok (.ireturn, 1) := by decide +kernel
theorem d_RowCoder_allHaveWeight_0 : decode b_RowCoder_allHaveWeight 0 = .ok (.iload_n 1, 1) := by decide +kernel
theorem d_RowCoder_allHaveWeight_1 : decode b_RowCoder_allHaveWeight 1 = .ok (.istore_n 3, 1) := by decide +kernel
theorem d_RowCoder_allHaveWeight_2 : decode b_RowCoder_allHaveWeight 2 = .ok (.iload_n 3, 1) := by decide +kernel
theorem d_RowCoder_allHaveWeight_3 : decode b_RowCoder_allHaveWeight 3 = .ok (.aload_n 0, 1) := by decide +kernel
theorem d_RowCoder_allHaveWeight_4 : decode b_RowCoder_allHaveWeight 4 = .ok (.invokevirtual 7, 3) := by decide +kernel
theorem d_RowCoder_allHaveWeight_7 : decode b_RowCoder_allHaveWeight 7 = .ok (.if_icmp .ge 23, 3) := by decide +kernel
theorem d_RowCoder_allHaveWeight_10 : decode b_RowCoder_allHaveWeight 10 = .ok (.aload_n 2, 1) := by decide +kernel
theorem d_RowCoder_allHaveWeight_11 : decode b_RowCoder_allHaveWeight 11 = .ok (.aload_n 0, 1) := by decide +kernel
theorem d_RowCoder_allHaveWeight_12 : decode b_RowCoder_allHaveWeight 12 = .ok (.iload_n 3, 1) := by decide +kernel
theorem d_RowCoder_allHaveWeight_13 : decode b_RowCoder_allHaveWeight 13 = .ok (.invokevirtual 13, 3) := by decide +kernel
theorem d_RowCoder_allHaveWeight_16 : decode b_RowCoder_allHaveWeight 16 = .ok (.invokevirtual 17, 3) := by decide +kernel
theorem d_RowCoder_allHaveWeight_19 : decode b_RowCoder_allHaveWeight 19 = .ok (.ifCond .ne 5, 3) := by decide +kernel
theorem d_RowCoder_allHaveWeight_22 : decode b_RowCoder_allHaveWeight 22 = .ok (.iconst 0, 1) := by decide +kernel
theorem d_RowCoder_allHaveWeight_23 : decode b_RowCoder_allHaveWeight 23 = .ok (.ireturn, 1) := by decide +kernel
theorem d_RowCoder_allHaveWeight_24 : decode b_RowCoder_allHaveWeight 24 = .ok (.iinc 3 1, 3) := by decide +kernel
theorem d_RowCoder_allHaveWeight_27 : decode b_RowCoder_allHaveWeight 27 = .ok (.goto (-25), 3) := by decide +kernel
theorem d_RowCoder_allHaveWeight_30 : decode b_RowCoder_allHaveWeight 30 = .ok (.iconst 1, 1) := by decide +kernel
theorem d_RowCoder_allHaveWeight_31 : decode b_RowCoder_allHaveWeight 31 = .ok (.ireturn, 1) := by decide +kernel
theorem d_RowCoder_putRow_0 : decode b_RowCoder_putRow 0 = .ok (.aload_n 3, 1) := by decide +kernel
theorem d_RowCoder_putRow_1 : decode b_RowCoder_putRow 1 = .ok (.invokevirtual 22, 3) := by decide +kernel
theorem d_RowCoder_putRow_4 : decode b_RowCoder_putRow 4 = .ok (.aload_n 0, 1) := by decide +kernel
theorem d_RowCoder_putRow_5 : decode b_RowCoder_putRow 5 = .ok (.aload_n 0, 1) := by decide +kernel
theorem d_RowCoder_putRow_6 : decode b_RowCoder_putRow 6 = .ok (.invokevirtual 7, 3) := by decide +kernel
theorem d_RowCoder_putRow_9 : decode b_RowCoder_putRow 9 = .ok (.iconst 1, 1) := by decide +kernel
theorem d_RowCoder_putRow_10 : decode b_RowCoder_putRow 10 = .ok (.isub, 1) := by decide +kernel
theorem d_RowCoder_putRow_11 : decode b_RowCoder_putRow 11 = .ok (.invokevirtual 13, 3) := by decide +kernel
theorem d_RowCoder_putRow_14 : decode b_RowCoder_putRow 14 = .ok (.istore 4, 2) := by decide +kernel
theorem d_RowCoder_putRow_16 : decode b_RowCoder_putRow 16 = .ok (.aload_n 2, 1) := by decide +kernel
theorem d_RowCoder_putRow_17 : decode b_RowCoder_putRow 17 = .ok (.iload 4, 2) := by decide +kernel
theorem d_RowCoder_putRow_19 : decode b_RowCoder_putRow 19 = .ok (.aload_n 2, 1) := by decide +kernel
theorem d_RowCoder_putRow_20 : decode b_RowCoder_putRow 20 = .ok (.iload 4, 2) := by decide +kernel
theorem d_RowCoder_putRow_22 : decode b_RowCoder_putRow 22 = .ok (.invokevirtual 17, 3) := by decide +kernel
theorem d_RowCoder_putRow_25 : decode b_RowCoder_putRow 25 = .ok (.invokevirtual 25, 3) := by decide +kernel
theorem d_RowCoder_putRow_28 : decode b_RowCoder_putRow 28 = .ok (.istore 5, 2) := by decide +kernel
theorem d_RowCoder_putRow_30 : decode b_RowCoder_putRow 30 = .ok (.aload_n 0, 1) := by decide +kernel
theorem d_RowCoder_putRow_31 : decode b_RowCoder_putRow 31 = .ok (.invokevirtual 7, 3) := by decide +kernel
theorem d_RowCoder_putRow_34 : decode b_RowCoder_putRow 34 = .ok (.iconst 2, 1) := by decide +kernel
theorem d_RowCoder_putRow_35 : decode b_RowCoder_putRow 35 = .ok (.isub, 1) := by decide +kernel
theorem d_RowCoder_putRow_36 : decode b_RowCoder_putRow 36 = .ok (.istore 6, 2) := by decide +kernel
theorem d_RowCoder_putRow_38 : decode b_RowCoder_putRow 38 = .ok (.iload 6, 2) := by decide +kernel
theorem d_RowCoder_putRow_40 : decode b_RowCoder_putRow 40 = .ok (.iload_n 1, 1) := by decide +kernel
theorem d_RowCoder_putRow_41 : decode b_RowCoder_putRow 41 = .ok (.if_icmp .lt 31, 3) := by decide +kernel
theorem d_RowCoder_putRow_44 : decode b_RowCoder_putRow 44 = .ok (.aload_n 3, 1) := by decide +kernel
theorem d_RowCoder_putRow_45 : decode b_RowCoder_putRow 45 = .ok (.invokevirtual 29, 3) := by decide +kernel
theorem d_RowCoder_putRow_48 : decode b_RowCoder_putRow 48 = .ok (.ifCond .ne 24, 3) := by decide +kernel
theorem d_RowCoder_putRow_51 : decode b_RowCoder_putRow 51 = .ok (.aload_n 0, 1) := by decide +kernel
theorem d_RowCoder_putRow_52 : decode b_RowCoder_putRow 52 = .ok (.iload 6, 2) := by decide +kernel
theorem d_RowCoder_putRow_54 : decode b_RowCoder_putRow 54 = .ok (.invokevirtual 13, 3) := by decide +kernel
theorem d_RowCoder_putRow_57 : decode b_RowCoder_putRow 57 = .ok (.iload 5, 2) := by decide +kernel
theorem d_RowCoder_putRow_59 : decode b_RowCoder_putRow 59 = .ok (.aload_n 2, 1) := by decide +kernel
theorem d_RowCoder_putRow_60 : decode b_RowCoder_putRow 60 = .ok (.aload_n 3, 1) := by decide +kernel
theorem d_RowCoder_putRow_61 : decode b_RowCoder_putRow 61 = .ok (.invokestatic 33, 3) := by decide +kernel
theorem d_RowCoder_putRow_64 : decode b_RowCoder_putRow 64 = .ok (.istore 5, 2) := by decide +kernel
theorem d_RowCoder_putRow_66 : decode b_RowCoder_putRow 66 = .ok (.iinc 6 (-1), 3) := by decide +kernel
theorem d_RowCoder_putRow_69 : decode b_RowCoder_putRow 69 = .ok (.goto (-31), 3) := by decide +kernel
theorem d_RowCoder_putRow_72 : decode b_RowCoder_putRow 72 = .ok (.aload_n 3, 1) := by decide +kernel
theorem d_RowCoder_putRow_73 : decode b_RowCoder_putRow 73 = .ok (.iload 5, 2) := by decide +kernel
theorem d_RowCoder_putRow_75 : decode b_RowCoder_putRow 75 = .ok (.aload_n 2, 1) := by decide +kernel
theorem d_RowCoder_putRow_76 : decode b_RowCoder_putRow 76 = .ok (.invokevirtual 39, 3) := by decide +kernel
theorem d_RowCoder_putRow_79 : decode b_RowCoder_putRow 79 = .ok (.invokevirtual 42, 3) := by decide +kernel
theorem d_RowCoder_putRow_82 : decode b_RowCoder_putRow 82 = .ok (.aload_n 3, 1) := by decide +kernel
theorem d_RowCoder_putRow_83 : decode b_RowCoder_putRow 83 = .ok (.iconst 1, 1) := by decide +kernel
theorem d_RowCoder_putRow_84 : decode b_RowCoder_putRow 84 = .ok (.iconst 1, 1) := by decide +kernel
theorem d_RowCoder_putRow_85 : decode b_RowCoder_putRow 85 = .ok (.invokevirtual 42, 3) := by decide +kernel
theorem d_RowCoder_putRow_88 : decode b_RowCoder_putRow 88 = .ok (.aload_n 3, 1) := by decide +kernel
theorem d_RowCoder_putRow_89 : decode b_RowCoder_putRow 89 = .ok (.invokevirtual 46, 3) := by decide +kernel
theorem d_RowCoder_putRow_92 : decode b_RowCoder_putRow 92 = .ok (.aload_n 3, 1) := by decide +kernel
theorem d_RowCoder_putRow_93 : decode b_RowCoder_putRow 93 = .ok (.invokevirtual 29, 3) := by decide +kernel
theorem d_RowCoder_putRow_96 : decode b_RowCoder_putRow 96 = .ok (.ifCond .ne 7, 3) := by decide +kernel
theorem d_RowCoder_putRow_99 : decode b_RowCoder_putRow 99 = .ok (.iconst 1, 1) := by decide +kernel
theorem d_RowCoder_putRow_100 : decode b_RowCoder_putRow 100 = .ok (.goto 4, 3) := by decide +kernel
theorem d_RowCoder_putRow_103 : decode b_RowCoder_putRow 103 = .ok (.iconst 0, 1) := by decide +kernel
theorem d_RowCoder_putRow_104 : decode b_RowCoder_putRow 104 = .ok (.ireturn, 1) := by decide +kernel
abbrev rm_RC_putStep : Room := { frames := 3, cells := 0, slots := 0, locals := 65 }
set_option maxHeartbeats 4000000 in
set_option maxRecDepth 100000 in
theorem c_RC_putStep (l : Launch) (D : va_G) (cI cB cZ : ClassId) (sz : Nat) (qs : Nat) (pP : Nat) (pS : Nat) (pB : Nat) (pA : Nat) (pC : Nat) (pF : Nat) (pN : Nat) (o : Nat) (gP : Nat → Int) (gS : Nat → Int) (gB : Nat → Int) (gA : Nat → Int) (gC : Nat → Int) (gF : Nat → Int) (h : Nat) (hb : Nat) (L : Int) (hd : Int) (hn : Int) (ov : Int) (ts : Int) (tb : Int) (f : Nat → Int) (V : Nat) (B : Nat) (x : Int) (y : Int) (hI : rI V B (B / 8) L hd hn ov f) (hpr : ∀ k, k < 256 → -1 ≤ gP k ∧ gP k ≤ 65536) (ho : 5 ≤ o ∧ o ≤ 12) (hsh : shOK gP gS gB gA gC gF o) (hx1 : 0 ≤ x ∧ x < 256) (hy1 : 0 ≤ y ∧ y < 2 ^ o) (hw : 1 ≤ wgt (gP x.toNat) ∧ wgt (gP x.toNat) ≤ 2 ^ o) (hcf : cum gP x.toNat + wgt (gP x.toNat) ≤ 2 ^ o ∧ 0 ≤ cum gP x.toNat) : Met l y_RowCoder_putStep (.code y_RowCoder_putStep b_RowCoder_putStep 7 (some .int) :: zT) rm_RC_putStep (zPc D classes (TY cI cB cZ) [(qs, .inr (1, [.ref pP, .ref pS, .ref pB, .ref pA, .ref pC, .ref pF, .ref pN, .int (iZ (o : Int))])), (pP, .inl (cI, 256, .inl (zA gP))), (pF, .inl (cI, 256, .inl (zA gF))), (pC, .inl (cI, 4096, .inl (zA gC))), (h, .inr (0, [.ref hb, .int (iZ L), .int (iZ hd), .int (iZ hn), .int (iZ ov), .int (iZ ts), .int (iZ tb)])), (hb, .inl (cB, 6000, .inl (zA f)))] sz [.int (iZ x), .int (iZ y), .ref qs, .ref h]) (zFi (S := Int × Int × Int × Int × (Nat → Int)) D classes (fun z u => z = (fcF gS x ((y + 2 ^ o) / 2 ^ (enN (y + 2 ^ o) (wgt (gP x.toNat)) (o + 1)) - (wgt (gP x.toNat))) (2 ^ o) : Int) ∧ rI (V + ((y + 2 ^ o) % 2 ^ (enN (y + 2 ^ o) (wgt (gP x.toNat)) (o + 1))).toNat * 2 ^ B) (B + (enN (y + 2 ^ o) (wgt (gP x.toNat)) (o + 1))) ((B + (enN (y + 2 ^ o) (wgt (gP x.toNat)) (o + 1))) / 8) u.1 u.2.1 u.2.2.1 u.2.2.2.1 u.2.2.2.2) (fun u => [(qs, .inr (1, [.ref pP, .ref pS, .ref pB, .ref pA, .ref pC, .ref pF, .ref pN, .int (iZ (o : Int))])), (pP, .inl (cI, 256, .inl (zA gP))), (pF, .inl (cI, 256, .inl (zA gF))), (pC, .inl (cI, 4096, .inl (zA gC))), (h, .inr (0, [.ref hb, .int (iZ u.1), .int (iZ u.2.1), .int (iZ u.2.2.1), .int (iZ u.2.2.2.1), .int (iZ ts), .int (iZ tb)])), (hb, .inl (cB, 6000, .inl (zA u.2.2.2.2)))]) (va_A [(qs, .inr (1, [.ref pP, .ref pS, .ref pB, .ref pA, .ref pC, .ref pF, .ref pN, .int (iZ (o : Int))])), (pP, .inl (cI, 256, .inl (zA gP))), (pF, .inl (cI, 256, .inl (zA gF))), (pC, .inl (cI, 4096, .inl (zA gC))), (h, .inr (0, [.ref hb, .int (iZ L), .int (iZ hd), .int (iZ hn), .int (iZ ov), .int (iZ ts), .int (iZ tb)])), (hb, .inl (cB, 6000, .inl (zA f)))] sz)) 0 0 (va_A [(qs, .inr (1, [.ref pP, .ref pS, .ref pB, .ref pA, .ref pC, .ref pF, .ref pN, .int (iZ (o : Int))])), (pP, .inl (cI, 256, .inl (zA gP))), (pF, .inl (cI, 256, .inl (zA gF))), (pC, .inl (cI, 4096, .inl (zA gC))), (h, .inr (0, [.ref hb, .int (iZ L), .int (iZ hd), .int (iZ hn), .int (iZ ov), .int (iZ ts), .int (iZ tb)])), (hb, .inl (cB, 6000, .inl (zA f)))] sz) := by
  refine z_ofi (by decide) (Nat.le_of_ble_eq_true rfl) (Or.inl rfl) ?_
  intro p e s m args below meth c A Q E jA jK jret H locs jP jD jS ls jl
  obtain ⟨jx, jb, jrt, jml, jown, jts, jlk⟩ := E
  have jown : s.vm.findClass R_RowCoder = some m.cls := jown
  have hp12 := p2_le ho.2
  have hp0 := p2_pos o
  have hps := p2_s o
  have hpx := hpr x.toNat (by omega)
  have jl : lv_has ls 7 [(0, .int (iZ x)), (1, .int (iZ y)), (2, .ref qs), (3, .ref h)] := jl
  refine lv_iload_n jx jb d_RowCoder_putStep_0 rfl (lv_at jl 1 rfl) ?_
  refine lv_aload_n jx jb d_RowCoder_putStep_1 rfl (lv_at jl 2 rfl) ?_
  refine z_backe (va_runV (As := []) (rest := [.int (iZ y)]) ⟨jx, jb, jml, jown, jts⟩ (c_Share_cells l D cI cB cZ qs pP pS pB pA pC pF pN o (ho.2)) (zc_V 0 jts cd_Share_cells lk_RowCoder_49 im_Share_cells se_Share_cells in_Share hd_Share_cells ⟨Nat.le_of_ble_eq_true rfl, Nat.le_of_ble_eq_true rfl⟩ rfl rfl) (z_preVR jK jP [0] rfl rfl rfl) rfl rfl jl.1 rfl (lv_room (Nat.le_of_ble_eq_true rfl)) d_RowCoder_putStep_2 ⟨Nat.le_of_ble_eq_true rfl, Nat.le_of_ble_eq_true rfl⟩) ?_
  refine z_iadd jx jb d_RowCoder_putStep_5 ?_
  refine lv_istore (lv' := [(4, .int (iZ (y + (2 ^ o)))), (0, .int (iZ x)), (1, .int (iZ y)), (2, .ref qs), (3, .ref h)]) jx jb d_RowCoder_putStep_6 jl (by decide) rfl (fun ls jl => ?_)
  refine lv_iconst (v := iZ 2) jx jb d_RowCoder_putStep_8 rfl ?_
  refine lv_aload_n jx jb d_RowCoder_putStep_9 rfl (lv_at jl 3 rfl) ?_
  refine lv_iload_n jx jb d_RowCoder_putStep_10 rfl (lv_at jl 1 rfl) ?_
  refine z_backe (va_runV (As := [.int (iZ x)]) (rest := [.int (iZ 2)]) ⟨jx, jb, jml, jown, jts⟩ (c_Share_weightOf l D cI cB cZ qs pP pS pB pA pC pF pN o gP x (by first | assumption | omega) (by first | assumption | omega)) (zc_V 1 jts cd_Share_weightOf lk_RowCoder_17 im_Share_weightOf se_Share_weightOf in_Share hd_Share_weightOf ⟨Nat.le_of_ble_eq_true rfl, Nat.le_of_ble_eq_true rfl⟩ rfl rfl) (z_preVR jK jP [0, 1] rfl rfl rfl) rfl rfl jl.1 rfl (lv_room (Nat.le_of_ble_eq_true rfl)) d_RowCoder_putStep_11 ⟨Nat.le_of_ble_eq_true rfl, Nat.le_of_ble_eq_true rfl⟩) ?_
  refine z_imul jx jb d_RowCoder_putStep_14 ?_
  refine lv_istore (lv' := [(5, .int (iZ (2 * (wgt (gP x.toNat))))), (4, .int (iZ (y + (2 ^ o)))), (0, .int (iZ x)), (1, .int (iZ y)), (2, .ref qs), (3, .ref h)]) jx jb d_RowCoder_putStep_15 jl (by decide) rfl (fun ls jl => ?_)
  refine lv_iconst (v := iZ 0) jx jb d_RowCoder_putStep_17 rfl ?_
  refine lv_istore (lv' := [(6, .int (iZ 0)), (5, .int (iZ (2 * (wgt (gP x.toNat))))), (4, .int (iZ (y + (2 ^ o)))), (0, .int (iZ x)), (1, .int (iZ y)), (2, .ref qs), (3, .ref h)]) jx jb d_RowCoder_putStep_18 jl (by decide) rfl (fun ls jl => ?_)
  have hjoin45 : ∀ (n : Nat), (n ≤ o) → ((wgt (gP x.toNat)) ≤ (y + 2 ^ o) / 2 ^ n ∧ (y + 2 ^ o) / 2 ^ n < 2 * (wgt (gP x.toNat))) → ∀ (H : Heap) (locs : List Loc), va_P D classes [(qs, .inr (1, [.ref pP, .ref pS, .ref pB, .ref pA, .ref pC, .ref pF, .ref pN, .int (iZ (o : Int))])), (pP, .inl (cI, 256, .inl (zA gP))), (pF, .inl (cI, 256, .inl (zA gF))), (pC, .inl (cI, 4096, .inl (zA gC))), (h, .inr (0, [.ref hb, .int (iZ L), .int (iZ hd), .int (iZ hn), .int (iZ ov), .int (iZ ts), .int (iZ tb)])), (hb, .inl (cB, 6000, .inl (zA f)))] H → va_D A [(qs, .inr (1, [.ref pP, .ref pS, .ref pB, .ref pA, .ref pC, .ref pF, .ref pN, .int (iZ (o : Int))])), (pP, .inl (cI, 256, .inl (zA gP))), (pF, .inl (cI, 256, .inl (zA gF))), (pC, .inl (cI, 4096, .inl (zA gC))), (h, .inr (0, [.ref hb, .int (iZ L), .int (iZ hd), .int (iZ hn), .int (iZ ov), .int (iZ ts), .int (iZ tb)])), (hb, .inl (cB, 6000, .inl (zA f)))] → va_S A s.heap H locs → ∀ ls : Array Slot, lv_has ls 7 [(0, .int (iZ x)), (2, .ref qs), (3, .ref h), (4, .int (iZ (y + 2 ^ o))), (6, .int (iZ (n : Int)))] → W p l e rm_RC_putStep s m args below meth c H locs 0 0 Q (F0 m 45 ls []) := by
    intro n hnn hE H locs jP jD jS ls jl
    have hen := enN_is (N := o + 1) (show 0 ≤ (y + 2 ^ o) by omega) hE (by omega)
    have hpn := p2_pos n
    have hmd := Int.emod_nonneg (y + 2 ^ o) (Int.ne_of_gt hpn)
    have hml := Int.emod_lt_of_pos (y + 2 ^ o) hpn
    have hpc := p2n n
    refine lv_aload_n jx jb d_RowCoder_putStep_45 rfl (lv_at jl 2 rfl) ?_
    refine lv_iload jx jb d_RowCoder_putStep_46 (lv_at jl 3 rfl) ?_
    refine lv_iconst (v := iZ 1) jx jb d_RowCoder_putStep_48 rfl ?_
    refine lv_iload jx jb d_RowCoder_putStep_49 (lv_at jl 4 rfl) ?_
    refine z_ishl jx jb d_RowCoder_putStep_51 n (2 ^ n) (rfl) (by omega) ?_
    refine z_top (2 ^ n) (Int.one_mul _) ?_
    refine lv_iconst (v := iZ 1) jx jb d_RowCoder_putStep_52 rfl ?_
    refine z_isub jx jb d_RowCoder_putStep_53 ?_
    refine z_iand jx jb d_RowCoder_putStep_54 n (2 ^ n) (rfl) (rfl) (by omega) ?_
    refine z_top (((y + 2 ^ o) % 2 ^ n).toNat : Int) (by omega) ?_
    refine lv_iload jx jb d_RowCoder_putStep_55 (lv_at jl 4 rfl) ?_
    refine z_backv (wr := [(qs, .inr (1, [.ref pP, .ref pS, .ref pB, .ref pA, .ref pC, .ref pF, .ref pN, .int (iZ (o : Int))])), (pP, .inl (cI, 256, .inl (zA gP))), (pF, .inl (cI, 256, .inl (zA gF))), (pC, .inl (cI, 4096, .inl (zA gC)))]) jP jD jS jA [4, 5] [0, 1, 2, 3] rfl rfl (by decide) (by decide) (va_runV (As := [.int (iZ (((y + 2 ^ o) % 2 ^ n).toNat : Int)), .int (iZ (n : Int))]) (rest := []) ⟨jx, jb, jml, jown, jts⟩ (c_Row_putBits l D cI cB cZ H.size h hb L hd hn ov ts tb f (((y + 2 ^ o) % 2 ^ n).toNat) n V B (hI) (by omega) (by omega)) (zc_V 2 jts cd_Row_putBits lk_RowCoder_42 im_Row_putBits se_Row_putBits in_Row hd_Row_putBits ⟨Nat.le_of_ble_eq_true rfl, Nat.le_of_ble_eq_true rfl⟩ rfl rfl) (z_preV jK jP jD [4, 5] (by decide) rfl rfl rfl rfl) rfl rfl jl.1 rfl (lv_room (Nat.le_of_ble_eq_true rfl)) d_RowCoder_putStep_57 ⟨Nat.le_of_ble_eq_true rfl, Nat.le_of_ble_eq_true rfl⟩) (fun u57 H locs hu57 jP jD jS => ?_)
    obtain ⟨L1_57, hd1_57, hn1_57, ov1_57, f1_57⟩ := u57
    have jP : va_P D classes [(qs, .inr (1, [.ref pP, .ref pS, .ref pB, .ref pA, .ref pC, .ref pF, .ref pN, .int (iZ (o : Int))])), (pP, .inl (cI, 256, .inl (zA gP))), (pF, .inl (cI, 256, .inl (zA gF))), (pC, .inl (cI, 4096, .inl (zA gC))), (h, .inr (0, [.ref hb, .int (iZ L1_57), .int (iZ hd1_57), .int (iZ hn1_57), .int (iZ ov1_57), .int (iZ ts), .int (iZ tb)])), (hb, .inl (cB, 6000, .inl (zA f1_57)))] H := jP.sub [0, 1, 2, 3, 4, 5] rfl
    have jD : va_D A [(qs, .inr (1, [.ref pP, .ref pS, .ref pB, .ref pA, .ref pC, .ref pF, .ref pN, .int (iZ (o : Int))])), (pP, .inl (cI, 256, .inl (zA gP))), (pF, .inl (cI, 256, .inl (zA gF))), (pC, .inl (cI, 4096, .inl (zA gC))), (h, .inr (0, [.ref hb, .int (iZ L1_57), .int (iZ hd1_57), .int (iZ hn1_57), .int (iZ ov1_57), .int (iZ ts), .int (iZ tb)])), (hb, .inl (cB, 6000, .inl (zA f1_57)))] := jD.sub [0, 1, 2, 3, 4, 5] (by decide) rfl
    refine lv_aload_n jx jb d_RowCoder_putStep_60 rfl (lv_at jl 1 rfl) ?_
    refine lv_iload_n jx jb d_RowCoder_putStep_61 rfl (lv_at jl 0 rfl) ?_
    refine lv_iload jx jb d_RowCoder_putStep_62 (lv_at jl 3 rfl) ?_
    refine lv_iload jx jb d_RowCoder_putStep_64 (lv_at jl 4 rfl) ?_
    refine z_ishr jx jb d_RowCoder_putStep_66 n (2 ^ n) (rfl) (by omega) ?_
    refine z_backe (va_runV (As := [.int (iZ x), .int (iZ ((y + 2 ^ o) / (2 ^ n)))]) (rest := []) ⟨jx, jb, jml, jown, jts⟩ (c_Share_cellOf l D cI cB cZ qs pP pS pB pA pC pF pN o gP gF gC x ((y + 2 ^ o) / (2 ^ n)) (ho.2) (by omega) (by first | assumption | omega) (by first | assumption | omega) (by rw [hsh.2.1 x.toNat (by omega)]; omega)) (zc_V 2 jts cd_Share_cellOf lk_RowCoder_25 im_Share_cellOf se_Share_cellOf in_Share hd_Share_cellOf ⟨Nat.le_of_ble_eq_true rfl, Nat.le_of_ble_eq_true rfl⟩ rfl rfl) (z_preVR jK jP [0, 1, 2, 3] rfl rfl rfl) rfl rfl jl.1 rfl (lv_room (Nat.le_of_ble_eq_true rfl)) d_RowCoder_putStep_67 ⟨Nat.le_of_ble_eq_true rfl, Nat.le_of_ble_eq_true rfl⟩) ?_
    refine z_top (fcF gS x ((y + 2 ^ o) / 2 ^ n - (wgt (gP x.toNat))) (2 ^ o) : Int) (by have q := cell_fc (r := (y + 2 ^ o) / 2 ^ n - (wgt (gP x.toNat))) hsh (show x.toNat < 256 by omega) rfl (by omega) (by omega); rw [show ((x.toNat : Nat) : Int) = x by omega] at q; exact q) ?_
    exact jret _ _ _ (L1_57, hd1_57, hn1_57, ov1_57, f1_57) _ _ (Or.inl rfl) (by rw [hen]; exact ⟨rfl, hu57⟩) (jP.sub [0, 1, 2, 3, 4, 5] rfl) (jD.sub [0, 1, 2, 3, 4, 5] (by decide) rfl) jS d_RowCoder_putStep_70
  have hloop20 : ∀ (nF : Nat) (n : Nat), o - n < nF → (n ≤ o) → (∀ j : Nat, j < n → 2 * (wgt (gP x.toNat)) ≤ (y + 2 ^ o) / 2 ^ j) → ∀ (H : Heap) (locs : List Loc), va_P D classes [(qs, .inr (1, [.ref pP, .ref pS, .ref pB, .ref pA, .ref pC, .ref pF, .ref pN, .int (iZ (o : Int))])), (pP, .inl (cI, 256, .inl (zA gP))), (pF, .inl (cI, 256, .inl (zA gF))), (pC, .inl (cI, 4096, .inl (zA gC))), (h, .inr (0, [.ref hb, .int (iZ L), .int (iZ hd), .int (iZ hn), .int (iZ ov), .int (iZ ts), .int (iZ tb)])), (hb, .inl (cB, 6000, .inl (zA f)))] H → va_D A [(qs, .inr (1, [.ref pP, .ref pS, .ref pB, .ref pA, .ref pC, .ref pF, .ref pN, .int (iZ (o : Int))])), (pP, .inl (cI, 256, .inl (zA gP))), (pF, .inl (cI, 256, .inl (zA gF))), (pC, .inl (cI, 4096, .inl (zA gC))), (h, .inr (0, [.ref hb, .int (iZ L), .int (iZ hd), .int (iZ hn), .int (iZ ov), .int (iZ ts), .int (iZ tb)])), (hb, .inl (cB, 6000, .inl (zA f)))] → va_S A s.heap H locs → ∀ ls : Array Slot, lv_has ls 7 [(0, .int (iZ x)), (2, .ref qs), (3, .ref h), (4, .int (iZ (y + 2 ^ o))), (5, .int (iZ (2 * (wgt (gP x.toNat))))), (6, .int (iZ (n : Int)))] → W p l e rm_RC_putStep s m args below meth c H locs 0 0 Q (F0 m 20 ls []) := by
    intro nF
    induction nF with
    | zero => intro n hm; exact absurd hm (Nat.not_lt_zero _)
    | succ nF ih20 =>
      intro n hm hnn hm1 H locs jP jD jS ls jl
      refine lv_iload jx jb d_RowCoder_putStep_20 (lv_at jl 5 rfl) ?_
      refine lv_aload_n jx jb d_RowCoder_putStep_22 rfl (lv_at jl 1 rfl) ?_
      refine z_backe (va_runV (As := []) (rest := [.int (iZ (n : Int))]) ⟨jx, jb, jml, jown, jts⟩ (c_Share_order l D cI cB cZ qs pP pS pB pA pC pF pN o) (zc_V 0 jts cd_Share_order lk_RowCoder_39 im_Share_order se_Share_order in_Share hd_Share_order ⟨Nat.le_of_ble_eq_true rfl, Nat.le_of_ble_eq_true rfl⟩ rfl rfl) (z_preVR jK jP [0] rfl rfl rfl) rfl rfl jl.1 rfl (lv_room (Nat.le_of_ble_eq_true rfl)) d_RowCoder_putStep_23 ⟨Nat.le_of_ble_eq_true rfl, Nat.le_of_ble_eq_true rfl⟩) ?_
      refine z_icmp_ge (tgt := 45) jx jb d_RowCoder_putStep_26 (by decide) ⟨⟨by omega, by omega⟩, ⟨by omega, by omega⟩⟩ (fun hc26 => ?_) (fun hc26 => ?_)
      ·
        exact hjoin45 n (by first | assumption | omega) (by first | exact en_exit (by omega) (by omega) hw hnn hm1 (Or.inl (by omega)) | exact en_exit (by omega) (by omega) hw hnn hm1 (Or.inr hc36)) _ _ (jP.sub [0, 1, 2, 3, 4, 5] rfl) (jD.sub [0, 1, 2, 3, 4, 5] (by decide) rfl) jS _ (lv_sub jl [0, 1, 2, 3, 5] rfl)
      ·
        refine lv_iload jx jb d_RowCoder_putStep_29 (lv_at jl 3 rfl) ?_
        refine lv_iload jx jb d_RowCoder_putStep_31 (lv_at jl 5 rfl) ?_
        refine z_ishr jx jb d_RowCoder_putStep_33 n (2 ^ n) (rfl) (by omega) ?_
        refine lv_iload jx jb d_RowCoder_putStep_34 (lv_at jl 4 rfl) ?_
        have hwd := wh_div (wh := (y + 2 ^ o)) (b := n) (by omega)
        refine z_icmp_lt (tgt := 45) jx jb d_RowCoder_putStep_36 (by decide) ⟨⟨by omega, by omega⟩, ⟨by omega, by omega⟩⟩ (fun hc36 => ?_) (fun hc36 => ?_)
        ·
          exact hjoin45 n (by first | assumption | omega) (by first | exact en_exit (by omega) (by omega) hw hnn hm1 (Or.inl (by omega)) | exact en_exit (by omega) (by omega) hw hnn hm1 (Or.inr hc36)) _ _ (jP.sub [0, 1, 2, 3, 4, 5] rfl) (jD.sub [0, 1, 2, 3, 4, 5] (by decide) rfl) jS _ (lv_sub jl [0, 1, 2, 3, 5] rfl)
        ·
          refine lv_iinc (v := iZ ((n : Int) + 1)) (lv' := [(6, .int (iZ ((n : Int) + 1))), (0, .int (iZ x)), (2, .ref qs), (3, .ref h), (4, .int (iZ (y + 2 ^ o))), (5, .int (iZ (2 * (wgt (gP x.toNat)))))]) jx jb d_RowCoder_putStep_39 jl (k := 5) rfl (iZ_add _ _) (by decide) rfl (fun ls jl => ?_)
          refine lv_goto (tgt := 20) jx jb d_RowCoder_putStep_42 (by decide) ?_
          exact ih20 (n + 1) (by omega) (by first | assumption | omega) (lt_s hm1 (by omega)) _ _ (jP.sub [0, 1, 2, 3, 4, 5] rfl) (jD.sub [0, 1, 2, 3, 4, 5] (by decide) rfl) jS _ (lv_sub jl [1, 2, 3, 4, 5, 0] rfl)
  exact hloop20 ((o - 0) + 1) 0 (Nat.lt_succ_self _) (by first | assumption | omega) (fun j h => absurd h (by omega)) _ _ (jP.sub [0, 1, 2, 3, 4, 5] rfl) (jD.sub [0, 1, 2, 3, 4, 5] (by decide) rfl) jS _ (lv_sub jl [3, 5, 6, 2, 1, 0] rfl)
abbrev rm_RC_allHaveWeight : Room := { frames := 3, cells := 0, slots := 0, locals := 62 }
set_option maxHeartbeats 4000000 in
set_option maxRecDepth 100000 in
theorem c_RC_allHaveWeight (l : Launch) (D : va_G) (cI cB cZ : ClassId) (h : Nat) (hb : Nat) (L : Int) (hd : Int) (hn : Int) (ov : Int) (ts : Int) (tb : Int) (f : Nat → Int) (qs : Nat) (pP : Nat) (pS : Nat) (pB : Nat) (pA : Nat) (pC : Nat) (pF : Nat) (pN : Nat) (o : Nat) (gP : Nat → Int) (a : Int) (hL : 0 ≤ L ∧ L ≤ 6000) (ha : 0 ≤ a ∧ a ≤ L) (hpr : ∀ k, k < 256 → -1 ≤ gP k ∧ gP k ≤ 65536) : Met l y_RowCoder_allHaveWeight (.code y_RowCoder_allHaveWeight b_RowCoder_allHaveWeight 4 (some .boolean) :: zT) rm_RC_allHaveWeight (zRc D classes (TY cI cB cZ) [(h, .inr (0, [.ref hb, .int (iZ L), .int (iZ hd), .int (iZ hn), .int (iZ ov), .int (iZ ts), .int (iZ tb)])), (hb, .inl (cB, 6000, .inl (zA f))), (qs, .inr (1, [.ref pP, .ref pS, .ref pB, .ref pA, .ref pC, .ref pF, .ref pN, .int (iZ (o : Int))])), (pP, .inl (cI, 256, .inl (zA gP)))] [.ref h, .int (iZ a), .ref qs]) (zSi (fun z => (z = 1 ∧ ∀ k : Nat, a ≤ (k : Int) → (k : Int) < L → gP (f k % 256).toNat ≠ 0) ∨ (z = 0 ∧ ∃ k : Nat, a ≤ (k : Int) ∧ (k : Int) < L ∧ gP (f k % 256).toNat = 0))) 0 0 (fun _ => False) := by
  refine z_ofr (by decide) (Nat.le_of_ble_eq_true rfl) (Or.inr rfl) ?_
  intro p e s m args below meth c Q E jP jK jret ls jl
  obtain ⟨jx, jb, jrt, jml, jown, jts, jlk⟩ := E
  have jown : s.vm.findClass R_RowCoder = some m.cls := jown
  have jl : lv_has ls 4 [(0, .ref h), (1, .int (iZ a)), (2, .ref qs)] := jl
  refine lv_iload_n jx jb d_RowCoder_allHaveWeight_0 rfl (lv_at jl 1 rfl) ?_
  refine z_top ((a.toNat : Nat) : Int) (by omega) ?_
  refine lv_istore_n (lv' := [(3, .int (iZ ((a.toNat : Nat) : Int))), (0, .ref h), (1, .int (iZ a)), (2, .ref qs)]) jx jb d_RowCoder_allHaveWeight_1 rfl jl (by decide) rfl (fun ls jl => ?_)
  have hloop2 : ∀ (nF : Nat) (i : Nat), L.toNat - i < nF → (a ≤ (i : Int) ∧ (i : Int) ≤ L) → (∀ k : Nat, a ≤ (k : Int) → k < i → gP (f k % 256).toNat ≠ 0) → ∀ ls : Array Slot, lv_has ls 4 [(0, .ref h), (2, .ref qs), (3, .int (iZ (i : Int)))] → W p l e rm_RC_allHaveWeight s m args below meth c s.heap [] 0 0 Q (F0 m 2 ls []) := by
    intro nF
    induction nF with
    | zero => intro i hm; exact absurd hm (Nat.not_lt_zero _)
    | succ nF ih2 =>
      intro i hm hi h0 ls jl
      refine lv_iload_n jx jb d_RowCoder_allHaveWeight_2 rfl (lv_at jl 2 rfl) ?_
      refine lv_aload_n jx jb d_RowCoder_allHaveWeight_3 rfl (lv_at jl 0 rfl) ?_
      refine z_backe (va_runV (As := []) (rest := [.int (iZ (i : Int))]) ⟨jx, jb, jml, jown, jts⟩ (c_Row_length l D cI cB cZ h hb L hd hn ov ts tb) (zc_V 0 jts cd_Row_length lk_RowCoder_7 im_Row_length se_Row_length in_Row hd_Row_length ⟨Nat.le_of_ble_eq_true rfl, Nat.le_of_ble_eq_true rfl⟩ rfl rfl) (z_preVR jK jP [0] rfl rfl rfl) rfl rfl jl.1 rfl (lv_room (Nat.le_of_ble_eq_true rfl)) d_RowCoder_allHaveWeight_4 ⟨Nat.le_of_ble_eq_true rfl, Nat.le_of_ble_eq_true rfl⟩) ?_
      refine z_icmp_ge (tgt := 30) jx jb d_RowCoder_allHaveWeight_7 (by decide) ⟨⟨by omega, by omega⟩, ⟨by omega, by omega⟩⟩ (fun hc7 => ?_) (fun hc7 => ?_)
      ·
        refine lv_iconst (v := iZ 1) jx jb d_RowCoder_allHaveWeight_30 rfl ?_
        exact jret _ _ _ (Or.inr (Or.inr rfl)) (Or.inl ⟨rfl, fun k q1 q2 => h0 k q1 (by omega)⟩) d_RowCoder_allHaveWeight_31
      ·
        refine lv_aload_n jx jb d_RowCoder_allHaveWeight_10 rfl (lv_at jl 1 rfl) ?_
        refine lv_aload_n jx jb d_RowCoder_allHaveWeight_11 rfl (lv_at jl 0 rfl) ?_
        refine lv_iload_n jx jb d_RowCoder_allHaveWeight_12 rfl (lv_at jl 2 rfl) ?_
        refine z_backe (va_runV (As := [.int (iZ (i : Int))]) (rest := [.ref qs]) ⟨jx, jb, jml, jown, jts⟩ (c_Row_byteOrZero l D cI cB cZ h hb L hd hn ov ts tb f (i : Int) (by first | assumption | omega) (by first | assumption | omega)) (zc_V 1 jts cd_Row_byteOrZero lk_RowCoder_13 im_Row_byteOrZero se_Row_byteOrZero in_Row hd_Row_byteOrZero ⟨Nat.le_of_ble_eq_true rfl, Nat.le_of_ble_eq_true rfl⟩ rfl rfl) (z_preVR jK jP [0, 1] rfl rfl rfl) rfl rfl jl.1 rfl (lv_room (Nat.le_of_ble_eq_true rfl)) d_RowCoder_allHaveWeight_13 ⟨Nat.le_of_ble_eq_true rfl, Nat.le_of_ble_eq_true rfl⟩) ?_
        refine z_top (f i % 256) (rb8_in (by omega) rfl) ?_
        refine z_backe (va_runV (As := [.int (iZ (f i % 256))]) (rest := []) ⟨jx, jb, jml, jown, jts⟩ (c_Share_weightOf l D cI cB cZ qs pP pS pB pA pC pF pN o gP (f i % 256) (by omega) (by first | assumption | omega)) (zc_V 1 jts cd_Share_weightOf lk_RowCoder_17 im_Share_weightOf se_Share_weightOf in_Share hd_Share_weightOf ⟨Nat.le_of_ble_eq_true rfl, Nat.le_of_ble_eq_true rfl⟩ rfl rfl) (z_preVR jK jP [2, 3] rfl rfl rfl) rfl rfl jl.1 rfl (lv_room (Nat.le_of_ble_eq_true rfl)) d_RowCoder_allHaveWeight_16 ⟨Nat.le_of_ble_eq_true rfl, Nat.le_of_ble_eq_true rfl⟩) ?_
        have hpi := hpr (f i % 256).toNat (by omega)
        have hwz := wgt_z hpi.1
        have hwb := wgt_b hpi
        refine z_if_ne (tgt := 24) jx jb d_RowCoder_allHaveWeight_19 (by decide) ⟨by omega, by omega⟩ (fun hc19 => ?_) (fun hc19 => ?_)
        ·
          refine lv_iinc (v := iZ ((i : Int) + 1)) (lv' := [(3, .int (iZ ((i : Int) + 1))), (0, .ref h), (2, .ref qs)]) jx jb d_RowCoder_allHaveWeight_24 jl (k := 2) rfl (iZ_add _ _) (by decide) rfl (fun ls jl => ?_)
          refine lv_goto (tgt := 2) jx jb d_RowCoder_allHaveWeight_27 (by decide) ?_
          exact ih2 (i + 1) (by omega) (by omega) (aw_s h0 (by omega)) _ (lv_sub jl [1, 2, 0] rfl)
        ·
          refine lv_iconst (v := iZ 0) jx jb d_RowCoder_allHaveWeight_22 rfl ?_
          exact jret _ _ _ (Or.inr (Or.inl rfl)) (Or.inr ⟨rfl, i, by omega, by omega, by omega⟩) d_RowCoder_allHaveWeight_23
  exact hloop2 ((L.toNat - a.toNat) + 1) a.toNat (Nat.lt_succ_self _) (by omega) (fun k q1 q2 => absurd q1 (by omega)) _ (lv_sub jl [1, 3, 0] rfl)
abbrev rm_RC_putRow : Room := { frames := 4, cells := 0, slots := 0, locals := 91 }
set_option maxHeartbeats 4000000 in
set_option maxRecDepth 100000 in
theorem c_RC_putRow (l : Launch) (D : va_G) (cI cB cZ : ClassId) (sz : Nat) (hz : Nat) (hbz : Nat) (Lz : Int) (hdz : Int) (hnz : Int) (ovz : Int) (tsz : Int) (tbz : Int) (f2 : Nat → Int) (qs : Nat) (pP : Nat) (pS : Nat) (pB : Nat) (pA : Nat) (pC : Nat) (pF : Nat) (pN : Nat) (o : Nat) (gP : Nat → Int) (gS : Nat → Int) (gB : Nat → Int) (gA : Nat → Int) (gC : Nat → Int) (gF : Nat → Int) (h : Nat) (hb : Nat) (L : Int) (hd : Int) (hn : Int) (ov : Int) (ts : Int) (tb : Int) (f : Nat → Int) (a : Int) (hLz : 0 ≤ Lz ∧ Lz ≤ 6000 ∧ 0 ≤ a ∧ a < Lz) (hpr : ∀ k, k < 256 → -1 ≤ gP k ∧ gP k ≤ 65536) (ho : 5 ≤ o ∧ o ≤ 12) (hsh : shOK gP gS gB gA gC gF o) (hsum : cum gP 256 = 2 ^ o) (hwt : ∀ k : Nat, a ≤ (k : Int) → (k : Int) < Lz → gP (f2 k % 256).toNat ≠ 0) (hfr : ∀ k, -128 ≤ f k ∧ f k < 128) : Met l y_RowCoder_putRow (.code y_RowCoder_putRow b_RowCoder_putRow 7 (some .boolean) :: zT) rm_RC_putRow (zPc D classes (TY cI cB cZ) [(hz, .inr (0, [.ref hbz, .int (iZ Lz), .int (iZ hdz), .int (iZ hnz), .int (iZ ovz), .int (iZ tsz), .int (iZ tbz)])), (hbz, .inl (cB, 6000, .inl (zA f2))), (qs, .inr (1, [.ref pP, .ref pS, .ref pB, .ref pA, .ref pC, .ref pF, .ref pN, .int (iZ (o : Int))])), (pP, .inl (cI, 256, .inl (zA gP))), (pF, .inl (cI, 256, .inl (zA gF))), (pC, .inl (cI, 4096, .inl (zA gC))), (h, .inr (0, [.ref hb, .int (iZ L), .int (iZ hd), .int (iZ hn), .int (iZ ov), .int (iZ ts), .int (iZ tb)])), (hb, .inl (cB, 6000, .inl (zA f)))] sz [.ref hz, .int (iZ a), .ref qs, .ref h]) (zFi (S := Int × Int × Int × Int × (Nat → Int)) D classes (fun z u => (z = 1 ∧ (ecB gP gS o (fun k => f2 k % 256) (Lz - 1).toNat (Lz - 1 - a).toNat) ≤ 48000 ∧ rI (ecV gP gS o (fun k => f2 k % 256) (Lz - 1).toNat (Lz - 1 - a).toNat) (8 * (((ecB gP gS o (fun k => f2 k % 256) (Lz - 1).toNat (Lz - 1 - a).toNat) + 7) / 8)) (((ecB gP gS o (fun k => f2 k % 256) (Lz - 1).toNat (Lz - 1 - a).toNat) + 7) / 8) u.1 u.2.1 u.2.2.1 u.2.2.2.1 u.2.2.2.2) ∨ (z = 0 ∧ 48000 < (ecB gP gS o (fun k => f2 k % 256) (Lz - 1).toNat (Lz - 1 - a).toNat) ∧ ∀ k, -128 ≤ u.2.2.2.2 k ∧ u.2.2.2.2 k < 128)) (fun u => [(hz, .inr (0, [.ref hbz, .int (iZ Lz), .int (iZ hdz), .int (iZ hnz), .int (iZ ovz), .int (iZ tsz), .int (iZ tbz)])), (hbz, .inl (cB, 6000, .inl (zA f2))), (qs, .inr (1, [.ref pP, .ref pS, .ref pB, .ref pA, .ref pC, .ref pF, .ref pN, .int (iZ (o : Int))])), (pP, .inl (cI, 256, .inl (zA gP))), (pF, .inl (cI, 256, .inl (zA gF))), (pC, .inl (cI, 4096, .inl (zA gC))), (h, .inr (0, [.ref hb, .int (iZ u.1), .int (iZ u.2.1), .int (iZ u.2.2.1), .int (iZ u.2.2.2.1), .int (iZ ts), .int (iZ tb)])), (hb, .inl (cB, 6000, .inl (zA u.2.2.2.2)))]) (va_A [(hz, .inr (0, [.ref hbz, .int (iZ Lz), .int (iZ hdz), .int (iZ hnz), .int (iZ ovz), .int (iZ tsz), .int (iZ tbz)])), (hbz, .inl (cB, 6000, .inl (zA f2))), (qs, .inr (1, [.ref pP, .ref pS, .ref pB, .ref pA, .ref pC, .ref pF, .ref pN, .int (iZ (o : Int))])), (pP, .inl (cI, 256, .inl (zA gP))), (pF, .inl (cI, 256, .inl (zA gF))), (pC, .inl (cI, 4096, .inl (zA gC))), (h, .inr (0, [.ref hb, .int (iZ L), .int (iZ hd), .int (iZ hn), .int (iZ ov), .int (iZ ts), .int (iZ tb)])), (hb, .inl (cB, 6000, .inl (zA f)))] sz)) 0 0 (va_A [(hz, .inr (0, [.ref hbz, .int (iZ Lz), .int (iZ hdz), .int (iZ hnz), .int (iZ ovz), .int (iZ tsz), .int (iZ tbz)])), (hbz, .inl (cB, 6000, .inl (zA f2))), (qs, .inr (1, [.ref pP, .ref pS, .ref pB, .ref pA, .ref pC, .ref pF, .ref pN, .int (iZ (o : Int))])), (pP, .inl (cI, 256, .inl (zA gP))), (pF, .inl (cI, 256, .inl (zA gF))), (pC, .inl (cI, 4096, .inl (zA gC))), (h, .inr (0, [.ref hb, .int (iZ L), .int (iZ hd), .int (iZ hn), .int (iZ ov), .int (iZ ts), .int (iZ tb)])), (hb, .inl (cB, 6000, .inl (zA f)))] sz) := by
  refine z_ofi (by decide) (Nat.le_of_ble_eq_true rfl) (Or.inr rfl) ?_
  intro p e s m args below meth c A Q E jA jK jret H locs jP jD jS ls jl
  obtain ⟨jx, jb, jrt, jml, jown, jts, jlk⟩ := E
  have jown : s.vm.findClass R_RowCoder = some m.cls := jown
  have hp12 := p2_le ho.2
  have hp0 := p2_pos o
  have hbb : ∀ k : Nat, a.toNat ≤ k → k ≤ (Lz - 1).toNat → 0 ≤ (fun k => f2 k % 256) k ∧ (fun k => f2 k % 256) k < 256 ∧ gP ((fun k => f2 k % 256) k).toNat ≠ 0 := fun k q1 q2 => ⟨by show 0 ≤ f2 k % 256; omega, by show f2 k % 256 < 256; omega, hwt k (by omega) (by omega)⟩
  have jl : lv_has ls 7 [(0, .ref hz), (1, .int (iZ a)), (2, .ref qs), (3, .ref h)] := jl
  refine lv_aload_n jx jb d_RowCoder_putRow_0 rfl (lv_at jl 3 rfl) ?_
  refine z_backv (wr := [(hz, .inr (0, [.ref hbz, .int (iZ Lz), .int (iZ hdz), .int (iZ hnz), .int (iZ ovz), .int (iZ tsz), .int (iZ tbz)])), (hbz, .inl (cB, 6000, .inl (zA f2))), (qs, .inr (1, [.ref pP, .ref pS, .ref pB, .ref pA, .ref pC, .ref pF, .ref pN, .int (iZ (o : Int))])), (pP, .inl (cI, 256, .inl (zA gP))), (pF, .inl (cI, 256, .inl (zA gF))), (pC, .inl (cI, 4096, .inl (zA gC))), (hb, .inl (cB, 6000, .inl (zA f)))]) jP jD jS jA [6] [0, 1, 2, 3, 4, 5, 7] rfl rfl (by decide) (by decide) (va_runV (As := []) (rest := []) ⟨jx, jb, jml, jown, jts⟩ (c_Row_empty l D cI cB cZ H.size h hb L hd hn ov ts tb) (zc_V 0 jts cd_Row_empty lk_RowCoder_22 im_Row_empty se_Row_empty in_Row hd_Row_empty ⟨Nat.le_of_ble_eq_true rfl, Nat.le_of_ble_eq_true rfl⟩ rfl rfl) (z_preV jK jP jD [6] (by decide) rfl rfl rfl rfl) rfl rfl jl.1 rfl (lv_room (Nat.le_of_ble_eq_true rfl)) d_RowCoder_putRow_1 ⟨Nat.le_of_ble_eq_true rfl, Nat.le_of_ble_eq_true rfl⟩) (fun u1 H locs hu1 jP jD jS => ?_)
  have jP : va_P D classes [(hz, .inr (0, [.ref hbz, .int (iZ Lz), .int (iZ hdz), .int (iZ hnz), .int (iZ ovz), .int (iZ tsz), .int (iZ tbz)])), (hbz, .inl (cB, 6000, .inl (zA f2))), (qs, .inr (1, [.ref pP, .ref pS, .ref pB, .ref pA, .ref pC, .ref pF, .ref pN, .int (iZ (o : Int))])), (pP, .inl (cI, 256, .inl (zA gP))), (pF, .inl (cI, 256, .inl (zA gF))), (pC, .inl (cI, 4096, .inl (zA gC))), (h, .inr (0, [.ref hb, .int (iZ 0), .int (iZ 0), .int (iZ 0), .int (iZ 0), .int (iZ ts), .int (iZ tb)])), (hb, .inl (cB, 6000, .inl (zA f)))] H := jP.sub [0, 1, 2, 3, 4, 5, 7, 6] rfl
  have jD : va_D A [(hz, .inr (0, [.ref hbz, .int (iZ Lz), .int (iZ hdz), .int (iZ hnz), .int (iZ ovz), .int (iZ tsz), .int (iZ tbz)])), (hbz, .inl (cB, 6000, .inl (zA f2))), (qs, .inr (1, [.ref pP, .ref pS, .ref pB, .ref pA, .ref pC, .ref pF, .ref pN, .int (iZ (o : Int))])), (pP, .inl (cI, 256, .inl (zA gP))), (pF, .inl (cI, 256, .inl (zA gF))), (pC, .inl (cI, 4096, .inl (zA gC))), (h, .inr (0, [.ref hb, .int (iZ 0), .int (iZ 0), .int (iZ 0), .int (iZ 0), .int (iZ ts), .int (iZ tb)])), (hb, .inl (cB, 6000, .inl (zA f)))] := jD.sub [0, 1, 2, 3, 4, 5, 7, 6] (by decide) rfl
  refine lv_aload_n jx jb d_RowCoder_putRow_4 rfl (lv_at jl 0 rfl) ?_
  refine lv_aload_n jx jb d_RowCoder_putRow_5 rfl (lv_at jl 0 rfl) ?_
  refine z_backe (va_runV (As := []) (rest := [.ref hz]) ⟨jx, jb, jml, jown, jts⟩ (c_Row_length l D cI cB cZ hz hbz Lz hdz hnz ovz tsz tbz) (zc_V 0 jts cd_Row_length lk_RowCoder_7 im_Row_length se_Row_length in_Row hd_Row_length ⟨Nat.le_of_ble_eq_true rfl, Nat.le_of_ble_eq_true rfl⟩ rfl rfl) (z_preVR jK jP [0] rfl rfl rfl) rfl rfl jl.1 rfl (lv_room (Nat.le_of_ble_eq_true rfl)) d_RowCoder_putRow_6 ⟨Nat.le_of_ble_eq_true rfl, Nat.le_of_ble_eq_true rfl⟩) ?_
  refine lv_iconst (v := iZ 1) jx jb d_RowCoder_putRow_9 rfl ?_
  refine z_isub jx jb d_RowCoder_putRow_10 ?_
  refine z_backe (va_runV (As := [.int (iZ (Lz - 1))]) (rest := []) ⟨jx, jb, jml, jown, jts⟩ (c_Row_byteOrZero l D cI cB cZ hz hbz Lz hdz hnz ovz tsz tbz f2 (Lz - 1) (by first | assumption | omega) (by first | assumption | omega)) (zc_V 1 jts cd_Row_byteOrZero lk_RowCoder_13 im_Row_byteOrZero se_Row_byteOrZero in_Row hd_Row_byteOrZero ⟨Nat.le_of_ble_eq_true rfl, Nat.le_of_ble_eq_true rfl⟩ rfl rfl) (z_preVR jK jP [0, 1] rfl rfl rfl) rfl rfl jl.1 rfl (lv_room (Nat.le_of_ble_eq_true rfl)) d_RowCoder_putRow_11 ⟨Nat.le_of_ble_eq_true rfl, Nat.le_of_ble_eq_true rfl⟩) ?_
  refine z_top (f2 (Lz - 1).toNat % 256) (rb8_in (by omega) (by omega)) ?_
  have hl0 := hbb (Lz - 1).toNat (by omega) (Nat.le_refl _)
  have hpl := hpr (f2 (Lz - 1).toNat % 256).toNat (by omega)
  have hwl := wgt_b hpl
  have hwz := wgt_z hpl.1
  have hwn : wgt (gP (f2 (Lz - 1).toNat % 256).toNat) ≠ 0 := fun q => hl0.2.2 (hwz.mp q)
  have hcf := cum_fit hpr (y := (f2 (Lz - 1).toNat % 256).toNat) (by omega)
  have hcl := cum_lo hpr (b := (f2 (Lz - 1).toNat % 256).toNat) (by omega)
  refine lv_istore (lv' := [(4, .int (iZ (f2 (Lz - 1).toNat % 256))), (0, .ref hz), (1, .int (iZ a)), (2, .ref qs), (3, .ref h)]) jx jb d_RowCoder_putRow_14 jl (by decide) rfl (fun ls jl => ?_)
  refine lv_aload_n jx jb d_RowCoder_putRow_16 rfl (lv_at jl 3 rfl) ?_
  refine lv_iload jx jb d_RowCoder_putRow_17 (lv_at jl 0 rfl) ?_
  refine lv_aload_n jx jb d_RowCoder_putRow_19 rfl (lv_at jl 3 rfl) ?_
  refine lv_iload jx jb d_RowCoder_putRow_20 (lv_at jl 0 rfl) ?_
  refine z_backe (va_runV (As := [.int (iZ (f2 (Lz - 1).toNat % 256))]) (rest := [.int (iZ (f2 (Lz - 1).toNat % 256)), .ref qs]) ⟨jx, jb, jml, jown, jts⟩ (c_Share_weightOf l D cI cB cZ qs pP pS pB pA pC pF pN o gP (f2 (Lz - 1).toNat % 256) (by omega) (by first | assumption | omega)) (zc_V 1 jts cd_Share_weightOf lk_RowCoder_17 im_Share_weightOf se_Share_weightOf in_Share hd_Share_weightOf ⟨Nat.le_of_ble_eq_true rfl, Nat.le_of_ble_eq_true rfl⟩ rfl rfl) (z_preVR jK jP [2, 3] rfl rfl rfl) rfl rfl jl.1 rfl (lv_room (Nat.le_of_ble_eq_true rfl)) d_RowCoder_putRow_22 ⟨Nat.le_of_ble_eq_true rfl, Nat.le_of_ble_eq_true rfl⟩) ?_
  refine z_backe (va_runV (As := [.int (iZ (f2 (Lz - 1).toNat % 256)), .int (iZ (wgt (gP (f2 (Lz - 1).toNat % 256).toNat)))]) (rest := []) ⟨jx, jb, jml, jown, jts⟩ (c_Share_cellOf l D cI cB cZ qs pP pS pB pA pC pF pN o gP gF gC (f2 (Lz - 1).toNat % 256) (wgt (gP (f2 (Lz - 1).toNat % 256).toNat)) (ho.2) (by omega) (by omega) (by first | assumption | omega) (by rw [hsh.2.1 (f2 (Lz - 1).toNat % 256).toNat (by omega)]; omega)) (zc_V 2 jts cd_Share_cellOf lk_RowCoder_25 im_Share_cellOf se_Share_cellOf in_Share hd_Share_cellOf ⟨Nat.le_of_ble_eq_true rfl, Nat.le_of_ble_eq_true rfl⟩ rfl rfl) (z_preVR jK jP [2, 3, 4, 5] rfl rfl rfl) rfl rfl jl.1 rfl (lv_room (Nat.le_of_ble_eq_true rfl)) d_RowCoder_putRow_25 ⟨Nat.le_of_ble_eq_true rfl, Nat.le_of_ble_eq_true rfl⟩) ?_
  refine z_top ((ecS gP gS o (fun k => f2 k % 256) (Lz - 1).toNat 0).1 : Int) (by have q := cell_fc (r := 0) (y := wgt (gP (f2 (Lz - 1).toNat % 256).toNat)) hsh (show (f2 (Lz - 1).toNat % 256).toNat < 256 by omega) (by omega) (by omega) (by omega); rw [show (((f2 (Lz - 1).toNat % 256).toNat : Nat) : Int) = f2 (Lz - 1).toNat % 256 by omega] at q; exact q) ?_
  refine lv_istore (lv' := [(5, .int (iZ ((ecS gP gS o (fun k => f2 k % 256) (Lz - 1).toNat 0).1 : Int))), (4, .int (iZ (f2 (Lz - 1).toNat % 256))), (0, .ref hz), (1, .int (iZ a)), (2, .ref qs), (3, .ref h)]) jx jb d_RowCoder_putRow_28 jl (by decide) rfl (fun ls jl => ?_)
  refine lv_aload_n jx jb d_RowCoder_putRow_30 rfl (lv_at jl 2 rfl) ?_
  refine z_backe (va_runV (As := []) (rest := []) ⟨jx, jb, jml, jown, jts⟩ (c_Row_length l D cI cB cZ hz hbz Lz hdz hnz ovz tsz tbz) (zc_V 0 jts cd_Row_length lk_RowCoder_7 im_Row_length se_Row_length in_Row hd_Row_length ⟨Nat.le_of_ble_eq_true rfl, Nat.le_of_ble_eq_true rfl⟩ rfl rfl) (z_preVR jK jP [0] rfl rfl rfl) rfl rfl jl.1 rfl (lv_room (Nat.le_of_ble_eq_true rfl)) d_RowCoder_putRow_31 ⟨Nat.le_of_ble_eq_true rfl, Nat.le_of_ble_eq_true rfl⟩) ?_
  refine lv_iconst (v := iZ 2) jx jb d_RowCoder_putRow_34 rfl ?_
  refine z_isub jx jb d_RowCoder_putRow_35 ?_
  refine z_top (Lz - 2 - ((0 : Nat) : Int)) (by omega) ?_
  refine lv_istore (lv' := [(6, .int (iZ (Lz - 2 - ((0 : Nat) : Int)))), (5, .int (iZ ((ecS gP gS o (fun k => f2 k % 256) (Lz - 1).toNat 0).1 : Int))), (4, .int (iZ (f2 (Lz - 1).toNat % 256))), (0, .ref hz), (1, .int (iZ a)), (2, .ref qs), (3, .ref h)]) jx jb d_RowCoder_putRow_36 jl (by decide) rfl (fun ls jl => ?_)
  have hloop38 : ∀ (nF : Nat) (j : Nat) (L3 : Int) (hd3 : Int) (hn3 : Int) (ov3 : Int) (f3 : Nat → Int), (Lz - 1 - a).toNat - j < nF → ((j : Int) ≤ Lz - 1 - a) → (rI (ecS gP gS o (fun k => f2 k % 256) (Lz - 1).toNat j).2.1 (ecS gP gS o (fun k => f2 k % 256) (Lz - 1).toNat j).2.2 ((ecS gP gS o (fun k => f2 k % 256) (Lz - 1).toNat j).2.2 / 8) L3 hd3 hn3 ov3 f3) → ∀ (H : Heap) (locs : List Loc), va_P D classes [(hz, .inr (0, [.ref hbz, .int (iZ Lz), .int (iZ hdz), .int (iZ hnz), .int (iZ ovz), .int (iZ tsz), .int (iZ tbz)])), (hbz, .inl (cB, 6000, .inl (zA f2))), (qs, .inr (1, [.ref pP, .ref pS, .ref pB, .ref pA, .ref pC, .ref pF, .ref pN, .int (iZ (o : Int))])), (pP, .inl (cI, 256, .inl (zA gP))), (pF, .inl (cI, 256, .inl (zA gF))), (pC, .inl (cI, 4096, .inl (zA gC))), (h, .inr (0, [.ref hb, .int (iZ L3), .int (iZ hd3), .int (iZ hn3), .int (iZ ov3), .int (iZ ts), .int (iZ tb)])), (hb, .inl (cB, 6000, .inl (zA f3)))] H → va_D A [(hz, .inr (0, [.ref hbz, .int (iZ Lz), .int (iZ hdz), .int (iZ hnz), .int (iZ ovz), .int (iZ tsz), .int (iZ tbz)])), (hbz, .inl (cB, 6000, .inl (zA f2))), (qs, .inr (1, [.ref pP, .ref pS, .ref pB, .ref pA, .ref pC, .ref pF, .ref pN, .int (iZ (o : Int))])), (pP, .inl (cI, 256, .inl (zA gP))), (pF, .inl (cI, 256, .inl (zA gF))), (pC, .inl (cI, 4096, .inl (zA gC))), (h, .inr (0, [.ref hb, .int (iZ L3), .int (iZ hd3), .int (iZ hn3), .int (iZ ov3), .int (iZ ts), .int (iZ tb)])), (hb, .inl (cB, 6000, .inl (zA f3)))] → va_S A s.heap H locs → ∀ ls : Array Slot, lv_has ls 7 [(0, .ref hz), (1, .int (iZ a)), (2, .ref qs), (3, .ref h), (5, .int (iZ ((ecS gP gS o (fun k => f2 k % 256) (Lz - 1).toNat j).1 : Int))), (6, .int (iZ (Lz - 2 - (j : Int))))] → W p l e rm_RC_putRow s m args below meth c H locs 0 0 Q (F0 m 38 ls []) := by
    intro nF
    induction nF with
    | zero => intro j L3 hd3 hn3 ov3 f3 hm; exact absurd hm (Nat.not_lt_zero _)
    | succ nF ih38 =>
      intro j L3 hd3 hn3 ov3 f3 hm hj h2 H locs jP jD jS ls jl
      have hov2 := h2.2.2.2.2.2.1
      have hes := ecS_ok (b := (fun k => f2 k % 256)) (hi := (Lz - 1).toNat) (a := a.toNat) (j := j) ho hpr hsum hsh.2.2.1 hbb (by omega)
      refine lv_iload jx jb d_RowCoder_putRow_38 (lv_at jl 5 rfl) ?_
      refine lv_iload_n jx jb d_RowCoder_putRow_40 rfl (lv_at jl 1 rfl) ?_
      refine z_icmp_lt (tgt := 72) jx jb d_RowCoder_putRow_41 (by decide) ⟨⟨by omega, by omega⟩, ⟨by omega, by omega⟩⟩ (fun hc41 => ?_) (fun hc41 => ?_)
      ·
        refine lv_aload_n jx jb d_RowCoder_putRow_72 rfl (lv_at jl 3 rfl) ?_
        refine lv_iload jx jb d_RowCoder_putRow_73 (lv_at jl 4 rfl) ?_
        refine lv_aload_n jx jb d_RowCoder_putRow_75 rfl (lv_at jl 2 rfl) ?_
        refine z_backe (va_runV (As := []) (rest := [.int (iZ ((ecS gP gS o (fun k => f2 k % 256) (Lz - 1).toNat j).1 : Int)), .ref h]) ⟨jx, jb, jml, jown, jts⟩ (c_Share_order l D cI cB cZ qs pP pS pB pA pC pF pN o) (zc_V 0 jts cd_Share_order lk_RowCoder_39 im_Share_order se_Share_order in_Share hd_Share_order ⟨Nat.le_of_ble_eq_true rfl, Nat.le_of_ble_eq_true rfl⟩ rfl rfl) (z_preVR jK jP [2] rfl rfl rfl) rfl rfl jl.1 rfl (lv_room (Nat.le_of_ble_eq_true rfl)) d_RowCoder_putRow_76 ⟨Nat.le_of_ble_eq_true rfl, Nat.le_of_ble_eq_true rfl⟩) ?_
        refine z_backv (wr := [(hz, .inr (0, [.ref hbz, .int (iZ Lz), .int (iZ hdz), .int (iZ hnz), .int (iZ ovz), .int (iZ tsz), .int (iZ tbz)])), (hbz, .inl (cB, 6000, .inl (zA f2))), (qs, .inr (1, [.ref pP, .ref pS, .ref pB, .ref pA, .ref pC, .ref pF, .ref pN, .int (iZ (o : Int))])), (pP, .inl (cI, 256, .inl (zA gP))), (pF, .inl (cI, 256, .inl (zA gF))), (pC, .inl (cI, 4096, .inl (zA gC)))]) jP jD jS jA [6, 7] [0, 1, 2, 3, 4, 5] rfl rfl (by decide) (by decide) (va_runV (As := [.int (iZ ((ecS gP gS o (fun k => f2 k % 256) (Lz - 1).toNat j).1 : Int)), .int (iZ (o : Int))]) (rest := []) ⟨jx, jb, jml, jown, jts⟩ (c_Row_putBits l D cI cB cZ H.size h hb L3 hd3 hn3 ov3 ts tb f3 ((ecS gP gS o (fun k => f2 k % 256) (Lz - 1).toNat j).1) o ((ecS gP gS o (fun k => f2 k % 256) (Lz - 1).toNat j).2.1) ((ecS gP gS o (fun k => f2 k % 256) (Lz - 1).toNat j).2.2) (h2) (by have q := p2n o; omega) (by omega)) (zc_V 2 jts cd_Row_putBits lk_RowCoder_42 im_Row_putBits se_Row_putBits in_Row hd_Row_putBits ⟨Nat.le_of_ble_eq_true rfl, Nat.le_of_ble_eq_true rfl⟩ rfl rfl) (z_preV jK jP jD [6, 7] (by decide) rfl rfl rfl rfl) rfl rfl jl.1 rfl (lv_room (Nat.le_of_ble_eq_true rfl)) d_RowCoder_putRow_79 ⟨Nat.le_of_ble_eq_true rfl, Nat.le_of_ble_eq_true rfl⟩) (fun u79 H locs hu79 jP jD jS => ?_)
        obtain ⟨L1_79, hd1_79, hn1_79, ov1_79, f1_79⟩ := u79
        have jP : va_P D classes [(hz, .inr (0, [.ref hbz, .int (iZ Lz), .int (iZ hdz), .int (iZ hnz), .int (iZ ovz), .int (iZ tsz), .int (iZ tbz)])), (hbz, .inl (cB, 6000, .inl (zA f2))), (qs, .inr (1, [.ref pP, .ref pS, .ref pB, .ref pA, .ref pC, .ref pF, .ref pN, .int (iZ (o : Int))])), (pP, .inl (cI, 256, .inl (zA gP))), (pF, .inl (cI, 256, .inl (zA gF))), (pC, .inl (cI, 4096, .inl (zA gC))), (h, .inr (0, [.ref hb, .int (iZ L1_79), .int (iZ hd1_79), .int (iZ hn1_79), .int (iZ ov1_79), .int (iZ ts), .int (iZ tb)])), (hb, .inl (cB, 6000, .inl (zA f1_79)))] H := jP.sub [0, 1, 2, 3, 4, 5, 6, 7] rfl
        have jD : va_D A [(hz, .inr (0, [.ref hbz, .int (iZ Lz), .int (iZ hdz), .int (iZ hnz), .int (iZ ovz), .int (iZ tsz), .int (iZ tbz)])), (hbz, .inl (cB, 6000, .inl (zA f2))), (qs, .inr (1, [.ref pP, .ref pS, .ref pB, .ref pA, .ref pC, .ref pF, .ref pN, .int (iZ (o : Int))])), (pP, .inl (cI, 256, .inl (zA gP))), (pF, .inl (cI, 256, .inl (zA gF))), (pC, .inl (cI, 4096, .inl (zA gC))), (h, .inr (0, [.ref hb, .int (iZ L1_79), .int (iZ hd1_79), .int (iZ hn1_79), .int (iZ ov1_79), .int (iZ ts), .int (iZ tb)])), (hb, .inl (cB, 6000, .inl (zA f1_79)))] := jD.sub [0, 1, 2, 3, 4, 5, 6, 7] (by decide) rfl
        refine lv_aload_n jx jb d_RowCoder_putRow_82 rfl (lv_at jl 3 rfl) ?_
        refine lv_iconst (v := iZ 1) jx jb d_RowCoder_putRow_83 rfl ?_
        refine lv_iconst (v := iZ 1) jx jb d_RowCoder_putRow_84 rfl ?_
        refine z_backv (wr := [(hz, .inr (0, [.ref hbz, .int (iZ Lz), .int (iZ hdz), .int (iZ hnz), .int (iZ ovz), .int (iZ tsz), .int (iZ tbz)])), (hbz, .inl (cB, 6000, .inl (zA f2))), (qs, .inr (1, [.ref pP, .ref pS, .ref pB, .ref pA, .ref pC, .ref pF, .ref pN, .int (iZ (o : Int))])), (pP, .inl (cI, 256, .inl (zA gP))), (pF, .inl (cI, 256, .inl (zA gF))), (pC, .inl (cI, 4096, .inl (zA gC)))]) jP jD jS jA [6, 7] [0, 1, 2, 3, 4, 5] rfl rfl (by decide) (by decide) (va_runV (As := [.int (iZ 1), .int (iZ 1)]) (rest := []) ⟨jx, jb, jml, jown, jts⟩ (c_Row_putBits l D cI cB cZ H.size h hb L1_79 hd1_79 hn1_79 ov1_79 ts tb f1_79 1 1 ((ecS gP gS o (fun k => f2 k % 256) (Lz - 1).toNat j).2.1 + (ecS gP gS o (fun k => f2 k % 256) (Lz - 1).toNat j).1 * 2 ^ (ecS gP gS o (fun k => f2 k % 256) (Lz - 1).toNat j).2.2) ((ecS gP gS o (fun k => f2 k % 256) (Lz - 1).toNat j).2.2 + o) (hu79) (by decide) (by decide)) (zc_V 2 jts cd_Row_putBits lk_RowCoder_42 im_Row_putBits se_Row_putBits in_Row hd_Row_putBits ⟨Nat.le_of_ble_eq_true rfl, Nat.le_of_ble_eq_true rfl⟩ rfl rfl) (z_preV jK jP jD [6, 7] (by decide) rfl rfl rfl rfl) rfl rfl jl.1 rfl (lv_room (Nat.le_of_ble_eq_true rfl)) d_RowCoder_putRow_85 ⟨Nat.le_of_ble_eq_true rfl, Nat.le_of_ble_eq_true rfl⟩) (fun u85 H locs hu85 jP jD jS => ?_)
        obtain ⟨L1_85, hd1_85, hn1_85, ov1_85, f1_85⟩ := u85
        have jP : va_P D classes [(hz, .inr (0, [.ref hbz, .int (iZ Lz), .int (iZ hdz), .int (iZ hnz), .int (iZ ovz), .int (iZ tsz), .int (iZ tbz)])), (hbz, .inl (cB, 6000, .inl (zA f2))), (qs, .inr (1, [.ref pP, .ref pS, .ref pB, .ref pA, .ref pC, .ref pF, .ref pN, .int (iZ (o : Int))])), (pP, .inl (cI, 256, .inl (zA gP))), (pF, .inl (cI, 256, .inl (zA gF))), (pC, .inl (cI, 4096, .inl (zA gC))), (h, .inr (0, [.ref hb, .int (iZ L1_85), .int (iZ hd1_85), .int (iZ hn1_85), .int (iZ ov1_85), .int (iZ ts), .int (iZ tb)])), (hb, .inl (cB, 6000, .inl (zA f1_85)))] H := jP.sub [0, 1, 2, 3, 4, 5, 6, 7] rfl
        have jD : va_D A [(hz, .inr (0, [.ref hbz, .int (iZ Lz), .int (iZ hdz), .int (iZ hnz), .int (iZ ovz), .int (iZ tsz), .int (iZ tbz)])), (hbz, .inl (cB, 6000, .inl (zA f2))), (qs, .inr (1, [.ref pP, .ref pS, .ref pB, .ref pA, .ref pC, .ref pF, .ref pN, .int (iZ (o : Int))])), (pP, .inl (cI, 256, .inl (zA gP))), (pF, .inl (cI, 256, .inl (zA gF))), (pC, .inl (cI, 4096, .inl (zA gC))), (h, .inr (0, [.ref hb, .int (iZ L1_85), .int (iZ hd1_85), .int (iZ hn1_85), .int (iZ ov1_85), .int (iZ ts), .int (iZ tb)])), (hb, .inl (cB, 6000, .inl (zA f1_85)))] := jD.sub [0, 1, 2, 3, 4, 5, 6, 7] (by decide) rfl
        refine lv_aload_n jx jb d_RowCoder_putRow_88 rfl (lv_at jl 3 rfl) ?_
        refine z_backv (wr := [(hz, .inr (0, [.ref hbz, .int (iZ Lz), .int (iZ hdz), .int (iZ hnz), .int (iZ ovz), .int (iZ tsz), .int (iZ tbz)])), (hbz, .inl (cB, 6000, .inl (zA f2))), (qs, .inr (1, [.ref pP, .ref pS, .ref pB, .ref pA, .ref pC, .ref pF, .ref pN, .int (iZ (o : Int))])), (pP, .inl (cI, 256, .inl (zA gP))), (pF, .inl (cI, 256, .inl (zA gF))), (pC, .inl (cI, 4096, .inl (zA gC)))]) jP jD jS jA [6, 7] [0, 1, 2, 3, 4, 5] rfl rfl (by decide) (by decide) (va_runV (As := []) (rest := []) ⟨jx, jb, jml, jown, jts⟩ (c_Row_closeBits l D cI cB cZ H.size h hb L1_85 hd1_85 hn1_85 ov1_85 ts tb f1_85 ((ecS gP gS o (fun k => f2 k % 256) (Lz - 1).toNat j).2.1 + (ecS gP gS o (fun k => f2 k % 256) (Lz - 1).toNat j).1 * 2 ^ (ecS gP gS o (fun k => f2 k % 256) (Lz - 1).toNat j).2.2 + 1 * 2 ^ ((ecS gP gS o (fun k => f2 k % 256) (Lz - 1).toNat j).2.2 + o)) ((ecS gP gS o (fun k => f2 k % 256) (Lz - 1).toNat j).2.2 + o + 1) (hu85)) (zc_V 0 jts cd_Row_closeBits lk_RowCoder_46 im_Row_closeBits se_Row_closeBits in_Row hd_Row_closeBits ⟨Nat.le_of_ble_eq_true rfl, Nat.le_of_ble_eq_true rfl⟩ rfl rfl) (z_preV jK jP jD [6, 7] (by decide) rfl rfl rfl rfl) rfl rfl jl.1 rfl (lv_room (Nat.le_of_ble_eq_true rfl)) d_RowCoder_putRow_89 ⟨Nat.le_of_ble_eq_true rfl, Nat.le_of_ble_eq_true rfl⟩) (fun u89 H locs hu89 jP jD jS => ?_)
        obtain ⟨L1_89, hd1_89, hn1_89, ov1_89, f1_89⟩ := u89
        have jP : va_P D classes [(hz, .inr (0, [.ref hbz, .int (iZ Lz), .int (iZ hdz), .int (iZ hnz), .int (iZ ovz), .int (iZ tsz), .int (iZ tbz)])), (hbz, .inl (cB, 6000, .inl (zA f2))), (qs, .inr (1, [.ref pP, .ref pS, .ref pB, .ref pA, .ref pC, .ref pF, .ref pN, .int (iZ (o : Int))])), (pP, .inl (cI, 256, .inl (zA gP))), (pF, .inl (cI, 256, .inl (zA gF))), (pC, .inl (cI, 4096, .inl (zA gC))), (h, .inr (0, [.ref hb, .int (iZ L1_89), .int (iZ hd1_89), .int (iZ hn1_89), .int (iZ ov1_89), .int (iZ ts), .int (iZ tb)])), (hb, .inl (cB, 6000, .inl (zA f1_89)))] H := jP.sub [0, 1, 2, 3, 4, 5, 6, 7] rfl
        have jD : va_D A [(hz, .inr (0, [.ref hbz, .int (iZ Lz), .int (iZ hdz), .int (iZ hnz), .int (iZ ovz), .int (iZ tsz), .int (iZ tbz)])), (hbz, .inl (cB, 6000, .inl (zA f2))), (qs, .inr (1, [.ref pP, .ref pS, .ref pB, .ref pA, .ref pC, .ref pF, .ref pN, .int (iZ (o : Int))])), (pP, .inl (cI, 256, .inl (zA gP))), (pF, .inl (cI, 256, .inl (zA gF))), (pC, .inl (cI, 4096, .inl (zA gC))), (h, .inr (0, [.ref hb, .int (iZ L1_89), .int (iZ hd1_89), .int (iZ hn1_89), .int (iZ ov1_89), .int (iZ ts), .int (iZ tb)])), (hb, .inl (cB, 6000, .inl (zA f1_89)))] := jD.sub [0, 1, 2, 3, 4, 5, 6, 7] (by decide) rfl
        have hov9 : ov1_89 = if ((ecS gP gS o (fun k => f2 k % 256) (Lz - 1).toNat j).2.2 + o + 1 + 7) / 8 ≤ 6000 then 0 else 1 := hu89.2.2.2.2.2.1
        refine lv_aload_n jx jb d_RowCoder_putRow_92 rfl (lv_at jl 3 rfl) ?_
        refine z_backe (va_runV (As := []) (rest := []) ⟨jx, jb, jml, jown, jts⟩ (c_Row_isOverfull l D cI cB cZ h hb L1_89 hd1_89 hn1_89 ov1_89 ts tb (by rw [hov9]; split <;> omega)) (zc_V 0 jts cd_Row_isOverfull lk_RowCoder_29 im_Row_isOverfull se_Row_isOverfull in_Row hd_Row_isOverfull ⟨Nat.le_of_ble_eq_true rfl, Nat.le_of_ble_eq_true rfl⟩ rfl rfl) (z_preVR jK jP [6] rfl rfl rfl) rfl rfl jl.1 rfl (lv_room (Nat.le_of_ble_eq_true rfl)) d_RowCoder_putRow_93 ⟨Nat.le_of_ble_eq_true rfl, Nat.le_of_ble_eq_true rfl⟩) ?_
        refine z_if_ne (tgt := 103) jx jb d_RowCoder_putRow_96 (by decide) ⟨by rw [hov9]; split <;> omega, by rw [hov9]; split <;> omega⟩ (fun hc96 => ?_) (fun hc96 => ?_)
        ·
          refine lv_iconst (v := iZ 0) jx jb d_RowCoder_putRow_103 rfl ?_
          obtain rfl : j = (Lz - 1 - a).toNat := by omega
          exact jret _ _ _ (L1_89, hd1_89, hn1_89, ov1_89, f1_89) _ _ (Or.inr (Or.inl rfl)) (ec_post (j := (Lz - 1 - a).toNat) hu89 hov9 (by first | exact Or.inl ⟨rfl, hc96⟩ | exact Or.inr ⟨rfl, hc96⟩)) (jP.sub [0, 1, 2, 3, 4, 5, 6, 7] rfl) (jD.sub [0, 1, 2, 3, 4, 5, 6, 7] (by decide) rfl) jS d_RowCoder_putRow_104
        ·
          refine lv_iconst (v := iZ 1) jx jb d_RowCoder_putRow_99 rfl ?_
          refine lv_goto (tgt := 104) jx jb d_RowCoder_putRow_100 (by decide) ?_
          obtain rfl : j = (Lz - 1 - a).toNat := by omega
          exact jret _ _ _ (L1_89, hd1_89, hn1_89, ov1_89, f1_89) _ _ (Or.inr (Or.inr rfl)) (ec_post (j := (Lz - 1 - a).toNat) hu89 hov9 (by first | exact Or.inl ⟨rfl, hc96⟩ | exact Or.inr ⟨rfl, hc96⟩)) (jP.sub [0, 1, 2, 3, 4, 5, 6, 7] rfl) (jD.sub [0, 1, 2, 3, 4, 5, 6, 7] (by decide) rfl) jS d_RowCoder_putRow_104
      ·
        refine lv_aload_n jx jb d_RowCoder_putRow_44 rfl (lv_at jl 3 rfl) ?_
        refine z_backe (va_runV (As := []) (rest := []) ⟨jx, jb, jml, jown, jts⟩ (c_Row_isOverfull l D cI cB cZ h hb L3 hd3 hn3 ov3 ts tb (by rw [hov2]; split <;> omega)) (zc_V 0 jts cd_Row_isOverfull lk_RowCoder_29 im_Row_isOverfull se_Row_isOverfull in_Row hd_Row_isOverfull ⟨Nat.le_of_ble_eq_true rfl, Nat.le_of_ble_eq_true rfl⟩ rfl rfl) (z_preVR jK jP [6] rfl rfl rfl) rfl rfl jl.1 rfl (lv_room (Nat.le_of_ble_eq_true rfl)) d_RowCoder_putRow_45 ⟨Nat.le_of_ble_eq_true rfl, Nat.le_of_ble_eq_true rfl⟩) ?_
        refine z_if_ne (tgt := 72) jx jb d_RowCoder_putRow_48 (by decide) ⟨by rw [hov2]; split <;> omega, by rw [hov2]; split <;> omega⟩ (fun hc48 => ?_) (fun hc48 => ?_)
        ·
          have hbig : 6000 < (ecS gP gS o (fun k => f2 k % 256) (Lz - 1).toNat j).2.2 / 8 := by rcases Nat.lt_or_ge 6000 ((ecS gP gS o (fun k => f2 k % 256) (Lz - 1).toNat j).2.2 / 8) with q | q; exact q; rw [if_pos q] at hov2; exact absurd hov2 hc48
          refine lv_aload_n jx jb d_RowCoder_putRow_72 rfl (lv_at jl 3 rfl) ?_
          refine lv_iload jx jb d_RowCoder_putRow_73 (lv_at jl 4 rfl) ?_
          refine lv_aload_n jx jb d_RowCoder_putRow_75 rfl (lv_at jl 2 rfl) ?_
          refine z_backe (va_runV (As := []) (rest := [.int (iZ ((ecS gP gS o (fun k => f2 k % 256) (Lz - 1).toNat j).1 : Int)), .ref h]) ⟨jx, jb, jml, jown, jts⟩ (c_Share_order l D cI cB cZ qs pP pS pB pA pC pF pN o) (zc_V 0 jts cd_Share_order lk_RowCoder_39 im_Share_order se_Share_order in_Share hd_Share_order ⟨Nat.le_of_ble_eq_true rfl, Nat.le_of_ble_eq_true rfl⟩ rfl rfl) (z_preVR jK jP [2] rfl rfl rfl) rfl rfl jl.1 rfl (lv_room (Nat.le_of_ble_eq_true rfl)) d_RowCoder_putRow_76 ⟨Nat.le_of_ble_eq_true rfl, Nat.le_of_ble_eq_true rfl⟩) ?_
          refine z_backv (wr := [(hz, .inr (0, [.ref hbz, .int (iZ Lz), .int (iZ hdz), .int (iZ hnz), .int (iZ ovz), .int (iZ tsz), .int (iZ tbz)])), (hbz, .inl (cB, 6000, .inl (zA f2))), (qs, .inr (1, [.ref pP, .ref pS, .ref pB, .ref pA, .ref pC, .ref pF, .ref pN, .int (iZ (o : Int))])), (pP, .inl (cI, 256, .inl (zA gP))), (pF, .inl (cI, 256, .inl (zA gF))), (pC, .inl (cI, 4096, .inl (zA gC)))]) jP jD jS jA [6, 7] [0, 1, 2, 3, 4, 5] rfl rfl (by decide) (by decide) (va_runV (As := [.int (iZ ((ecS gP gS o (fun k => f2 k % 256) (Lz - 1).toNat j).1 : Int)), .int (iZ (o : Int))]) (rest := []) ⟨jx, jb, jml, jown, jts⟩ (c_Row_putBits l D cI cB cZ H.size h hb L3 hd3 hn3 ov3 ts tb f3 ((ecS gP gS o (fun k => f2 k % 256) (Lz - 1).toNat j).1) o ((ecS gP gS o (fun k => f2 k % 256) (Lz - 1).toNat j).2.1) ((ecS gP gS o (fun k => f2 k % 256) (Lz - 1).toNat j).2.2) (h2) (by have q := p2n o; omega) (by omega)) (zc_V 2 jts cd_Row_putBits lk_RowCoder_42 im_Row_putBits se_Row_putBits in_Row hd_Row_putBits ⟨Nat.le_of_ble_eq_true rfl, Nat.le_of_ble_eq_true rfl⟩ rfl rfl) (z_preV jK jP jD [6, 7] (by decide) rfl rfl rfl rfl) rfl rfl jl.1 rfl (lv_room (Nat.le_of_ble_eq_true rfl)) d_RowCoder_putRow_79 ⟨Nat.le_of_ble_eq_true rfl, Nat.le_of_ble_eq_true rfl⟩) (fun u79 H locs hu79 jP jD jS => ?_)
          obtain ⟨L1_79, hd1_79, hn1_79, ov1_79, f1_79⟩ := u79
          have jP : va_P D classes [(hz, .inr (0, [.ref hbz, .int (iZ Lz), .int (iZ hdz), .int (iZ hnz), .int (iZ ovz), .int (iZ tsz), .int (iZ tbz)])), (hbz, .inl (cB, 6000, .inl (zA f2))), (qs, .inr (1, [.ref pP, .ref pS, .ref pB, .ref pA, .ref pC, .ref pF, .ref pN, .int (iZ (o : Int))])), (pP, .inl (cI, 256, .inl (zA gP))), (pF, .inl (cI, 256, .inl (zA gF))), (pC, .inl (cI, 4096, .inl (zA gC))), (h, .inr (0, [.ref hb, .int (iZ L1_79), .int (iZ hd1_79), .int (iZ hn1_79), .int (iZ ov1_79), .int (iZ ts), .int (iZ tb)])), (hb, .inl (cB, 6000, .inl (zA f1_79)))] H := jP.sub [0, 1, 2, 3, 4, 5, 6, 7] rfl
          have jD : va_D A [(hz, .inr (0, [.ref hbz, .int (iZ Lz), .int (iZ hdz), .int (iZ hnz), .int (iZ ovz), .int (iZ tsz), .int (iZ tbz)])), (hbz, .inl (cB, 6000, .inl (zA f2))), (qs, .inr (1, [.ref pP, .ref pS, .ref pB, .ref pA, .ref pC, .ref pF, .ref pN, .int (iZ (o : Int))])), (pP, .inl (cI, 256, .inl (zA gP))), (pF, .inl (cI, 256, .inl (zA gF))), (pC, .inl (cI, 4096, .inl (zA gC))), (h, .inr (0, [.ref hb, .int (iZ L1_79), .int (iZ hd1_79), .int (iZ hn1_79), .int (iZ ov1_79), .int (iZ ts), .int (iZ tb)])), (hb, .inl (cB, 6000, .inl (zA f1_79)))] := jD.sub [0, 1, 2, 3, 4, 5, 6, 7] (by decide) rfl
          refine lv_aload_n jx jb d_RowCoder_putRow_82 rfl (lv_at jl 3 rfl) ?_
          refine lv_iconst (v := iZ 1) jx jb d_RowCoder_putRow_83 rfl ?_
          refine lv_iconst (v := iZ 1) jx jb d_RowCoder_putRow_84 rfl ?_
          refine z_backv (wr := [(hz, .inr (0, [.ref hbz, .int (iZ Lz), .int (iZ hdz), .int (iZ hnz), .int (iZ ovz), .int (iZ tsz), .int (iZ tbz)])), (hbz, .inl (cB, 6000, .inl (zA f2))), (qs, .inr (1, [.ref pP, .ref pS, .ref pB, .ref pA, .ref pC, .ref pF, .ref pN, .int (iZ (o : Int))])), (pP, .inl (cI, 256, .inl (zA gP))), (pF, .inl (cI, 256, .inl (zA gF))), (pC, .inl (cI, 4096, .inl (zA gC)))]) jP jD jS jA [6, 7] [0, 1, 2, 3, 4, 5] rfl rfl (by decide) (by decide) (va_runV (As := [.int (iZ 1), .int (iZ 1)]) (rest := []) ⟨jx, jb, jml, jown, jts⟩ (c_Row_putBits l D cI cB cZ H.size h hb L1_79 hd1_79 hn1_79 ov1_79 ts tb f1_79 1 1 ((ecS gP gS o (fun k => f2 k % 256) (Lz - 1).toNat j).2.1 + (ecS gP gS o (fun k => f2 k % 256) (Lz - 1).toNat j).1 * 2 ^ (ecS gP gS o (fun k => f2 k % 256) (Lz - 1).toNat j).2.2) ((ecS gP gS o (fun k => f2 k % 256) (Lz - 1).toNat j).2.2 + o) (hu79) (by decide) (by decide)) (zc_V 2 jts cd_Row_putBits lk_RowCoder_42 im_Row_putBits se_Row_putBits in_Row hd_Row_putBits ⟨Nat.le_of_ble_eq_true rfl, Nat.le_of_ble_eq_true rfl⟩ rfl rfl) (z_preV jK jP jD [6, 7] (by decide) rfl rfl rfl rfl) rfl rfl jl.1 rfl (lv_room (Nat.le_of_ble_eq_true rfl)) d_RowCoder_putRow_85 ⟨Nat.le_of_ble_eq_true rfl, Nat.le_of_ble_eq_true rfl⟩) (fun u85 H locs hu85 jP jD jS => ?_)
          obtain ⟨L1_85, hd1_85, hn1_85, ov1_85, f1_85⟩ := u85
          have jP : va_P D classes [(hz, .inr (0, [.ref hbz, .int (iZ Lz), .int (iZ hdz), .int (iZ hnz), .int (iZ ovz), .int (iZ tsz), .int (iZ tbz)])), (hbz, .inl (cB, 6000, .inl (zA f2))), (qs, .inr (1, [.ref pP, .ref pS, .ref pB, .ref pA, .ref pC, .ref pF, .ref pN, .int (iZ (o : Int))])), (pP, .inl (cI, 256, .inl (zA gP))), (pF, .inl (cI, 256, .inl (zA gF))), (pC, .inl (cI, 4096, .inl (zA gC))), (h, .inr (0, [.ref hb, .int (iZ L1_85), .int (iZ hd1_85), .int (iZ hn1_85), .int (iZ ov1_85), .int (iZ ts), .int (iZ tb)])), (hb, .inl (cB, 6000, .inl (zA f1_85)))] H := jP.sub [0, 1, 2, 3, 4, 5, 6, 7] rfl
          have jD : va_D A [(hz, .inr (0, [.ref hbz, .int (iZ Lz), .int (iZ hdz), .int (iZ hnz), .int (iZ ovz), .int (iZ tsz), .int (iZ tbz)])), (hbz, .inl (cB, 6000, .inl (zA f2))), (qs, .inr (1, [.ref pP, .ref pS, .ref pB, .ref pA, .ref pC, .ref pF, .ref pN, .int (iZ (o : Int))])), (pP, .inl (cI, 256, .inl (zA gP))), (pF, .inl (cI, 256, .inl (zA gF))), (pC, .inl (cI, 4096, .inl (zA gC))), (h, .inr (0, [.ref hb, .int (iZ L1_85), .int (iZ hd1_85), .int (iZ hn1_85), .int (iZ ov1_85), .int (iZ ts), .int (iZ tb)])), (hb, .inl (cB, 6000, .inl (zA f1_85)))] := jD.sub [0, 1, 2, 3, 4, 5, 6, 7] (by decide) rfl
          refine lv_aload_n jx jb d_RowCoder_putRow_88 rfl (lv_at jl 3 rfl) ?_
          refine z_backv (wr := [(hz, .inr (0, [.ref hbz, .int (iZ Lz), .int (iZ hdz), .int (iZ hnz), .int (iZ ovz), .int (iZ tsz), .int (iZ tbz)])), (hbz, .inl (cB, 6000, .inl (zA f2))), (qs, .inr (1, [.ref pP, .ref pS, .ref pB, .ref pA, .ref pC, .ref pF, .ref pN, .int (iZ (o : Int))])), (pP, .inl (cI, 256, .inl (zA gP))), (pF, .inl (cI, 256, .inl (zA gF))), (pC, .inl (cI, 4096, .inl (zA gC)))]) jP jD jS jA [6, 7] [0, 1, 2, 3, 4, 5] rfl rfl (by decide) (by decide) (va_runV (As := []) (rest := []) ⟨jx, jb, jml, jown, jts⟩ (c_Row_closeBits l D cI cB cZ H.size h hb L1_85 hd1_85 hn1_85 ov1_85 ts tb f1_85 ((ecS gP gS o (fun k => f2 k % 256) (Lz - 1).toNat j).2.1 + (ecS gP gS o (fun k => f2 k % 256) (Lz - 1).toNat j).1 * 2 ^ (ecS gP gS o (fun k => f2 k % 256) (Lz - 1).toNat j).2.2 + 1 * 2 ^ ((ecS gP gS o (fun k => f2 k % 256) (Lz - 1).toNat j).2.2 + o)) ((ecS gP gS o (fun k => f2 k % 256) (Lz - 1).toNat j).2.2 + o + 1) (hu85)) (zc_V 0 jts cd_Row_closeBits lk_RowCoder_46 im_Row_closeBits se_Row_closeBits in_Row hd_Row_closeBits ⟨Nat.le_of_ble_eq_true rfl, Nat.le_of_ble_eq_true rfl⟩ rfl rfl) (z_preV jK jP jD [6, 7] (by decide) rfl rfl rfl rfl) rfl rfl jl.1 rfl (lv_room (Nat.le_of_ble_eq_true rfl)) d_RowCoder_putRow_89 ⟨Nat.le_of_ble_eq_true rfl, Nat.le_of_ble_eq_true rfl⟩) (fun u89 H locs hu89 jP jD jS => ?_)
          obtain ⟨L1_89, hd1_89, hn1_89, ov1_89, f1_89⟩ := u89
          have jP : va_P D classes [(hz, .inr (0, [.ref hbz, .int (iZ Lz), .int (iZ hdz), .int (iZ hnz), .int (iZ ovz), .int (iZ tsz), .int (iZ tbz)])), (hbz, .inl (cB, 6000, .inl (zA f2))), (qs, .inr (1, [.ref pP, .ref pS, .ref pB, .ref pA, .ref pC, .ref pF, .ref pN, .int (iZ (o : Int))])), (pP, .inl (cI, 256, .inl (zA gP))), (pF, .inl (cI, 256, .inl (zA gF))), (pC, .inl (cI, 4096, .inl (zA gC))), (h, .inr (0, [.ref hb, .int (iZ L1_89), .int (iZ hd1_89), .int (iZ hn1_89), .int (iZ ov1_89), .int (iZ ts), .int (iZ tb)])), (hb, .inl (cB, 6000, .inl (zA f1_89)))] H := jP.sub [0, 1, 2, 3, 4, 5, 6, 7] rfl
          have jD : va_D A [(hz, .inr (0, [.ref hbz, .int (iZ Lz), .int (iZ hdz), .int (iZ hnz), .int (iZ ovz), .int (iZ tsz), .int (iZ tbz)])), (hbz, .inl (cB, 6000, .inl (zA f2))), (qs, .inr (1, [.ref pP, .ref pS, .ref pB, .ref pA, .ref pC, .ref pF, .ref pN, .int (iZ (o : Int))])), (pP, .inl (cI, 256, .inl (zA gP))), (pF, .inl (cI, 256, .inl (zA gF))), (pC, .inl (cI, 4096, .inl (zA gC))), (h, .inr (0, [.ref hb, .int (iZ L1_89), .int (iZ hd1_89), .int (iZ hn1_89), .int (iZ ov1_89), .int (iZ ts), .int (iZ tb)])), (hb, .inl (cB, 6000, .inl (zA f1_89)))] := jD.sub [0, 1, 2, 3, 4, 5, 6, 7] (by decide) rfl
          have hov9 : ov1_89 = if ((ecS gP gS o (fun k => f2 k % 256) (Lz - 1).toNat j).2.2 + o + 1 + 7) / 8 ≤ 6000 then 0 else 1 := hu89.2.2.2.2.2.1
          refine lv_aload_n jx jb d_RowCoder_putRow_92 rfl (lv_at jl 3 rfl) ?_
          refine z_backe (va_runV (As := []) (rest := []) ⟨jx, jb, jml, jown, jts⟩ (c_Row_isOverfull l D cI cB cZ h hb L1_89 hd1_89 hn1_89 ov1_89 ts tb (by rw [hov9]; split <;> omega)) (zc_V 0 jts cd_Row_isOverfull lk_RowCoder_29 im_Row_isOverfull se_Row_isOverfull in_Row hd_Row_isOverfull ⟨Nat.le_of_ble_eq_true rfl, Nat.le_of_ble_eq_true rfl⟩ rfl rfl) (z_preVR jK jP [6] rfl rfl rfl) rfl rfl jl.1 rfl (lv_room (Nat.le_of_ble_eq_true rfl)) d_RowCoder_putRow_93 ⟨Nat.le_of_ble_eq_true rfl, Nat.le_of_ble_eq_true rfl⟩) ?_
          refine z_if_ne (tgt := 103) jx jb d_RowCoder_putRow_96 (by decide) ⟨by rw [hov9]; split <;> omega, by rw [hov9]; split <;> omega⟩ (fun hc96 => ?_) (fun hc96 => ?_)
          ·
            refine lv_iconst (v := iZ 0) jx jb d_RowCoder_putRow_103 rfl ?_
            exact jret _ _ _ (L1_89, hd1_89, hn1_89, ov1_89, f1_89) _ _ (Or.inr (Or.inl rfl)) (ec_post2 (j := j) hu89.2.2.2.2.2.2.2 hov9 hbig (ecB_mono (show j ≤ (Lz - 1 - a).toNat by omega)) (by first | exact Or.inl ⟨rfl, hc96⟩ | exact Or.inr ⟨rfl, hc96⟩)) (jP.sub [0, 1, 2, 3, 4, 5, 6, 7] rfl) (jD.sub [0, 1, 2, 3, 4, 5, 6, 7] (by decide) rfl) jS d_RowCoder_putRow_104
          ·
            refine lv_iconst (v := iZ 1) jx jb d_RowCoder_putRow_99 rfl ?_
            refine lv_goto (tgt := 104) jx jb d_RowCoder_putRow_100 (by decide) ?_
            exact jret _ _ _ (L1_89, hd1_89, hn1_89, ov1_89, f1_89) _ _ (Or.inr (Or.inr rfl)) (ec_post2 (j := j) hu89.2.2.2.2.2.2.2 hov9 hbig (ecB_mono (show j ≤ (Lz - 1 - a).toNat by omega)) (by first | exact Or.inl ⟨rfl, hc96⟩ | exact Or.inr ⟨rfl, hc96⟩)) (jP.sub [0, 1, 2, 3, 4, 5, 6, 7] rfl) (jD.sub [0, 1, 2, 3, 4, 5, 6, 7] (by decide) rfl) jS d_RowCoder_putRow_104
        ·
          refine lv_aload_n jx jb d_RowCoder_putRow_51 rfl (lv_at jl 0 rfl) ?_
          refine lv_iload jx jb d_RowCoder_putRow_52 (lv_at jl 5 rfl) ?_
          refine z_backe (va_runV (As := [.int (iZ (Lz - 2 - (j : Int)))]) (rest := []) ⟨jx, jb, jml, jown, jts⟩ (c_Row_byteOrZero l D cI cB cZ hz hbz Lz hdz hnz ovz tsz tbz f2 (Lz - 2 - (j : Int)) (by first | assumption | omega) (by first | assumption | omega)) (zc_V 1 jts cd_Row_byteOrZero lk_RowCoder_13 im_Row_byteOrZero se_Row_byteOrZero in_Row hd_Row_byteOrZero ⟨Nat.le_of_ble_eq_true rfl, Nat.le_of_ble_eq_true rfl⟩ rfl rfl) (z_preVR jK jP [0, 1] rfl rfl rfl) rfl rfl jl.1 rfl (lv_room (Nat.le_of_ble_eq_true rfl)) d_RowCoder_putRow_54 ⟨Nat.le_of_ble_eq_true rfl, Nat.le_of_ble_eq_true rfl⟩) ?_
          refine z_top (f2 ((Lz - 1).toNat - (j + 1)) % 256) (rb8_in (by omega) (by omega)) ?_
          have hl1 := hbb ((Lz - 1).toNat - (j + 1)) (by omega) (by omega)
          have hpl1 := hpr (f2 ((Lz - 1).toNat - (j + 1)) % 256).toNat (by omega)
          have hwl1 := wgt_b hpl1
          have hwz1 := wgt_z hpl1.1
          have hwn1 : wgt (gP (f2 ((Lz - 1).toNat - (j + 1)) % 256).toNat) ≠ 0 := fun q => hl1.2.2 (hwz1.mp q)
          have hcf1 := cum_fit hpr (y := (f2 ((Lz - 1).toNat - (j + 1)) % 256).toNat) (by omega)
          have hcl1 := cum_lo hpr (b := (f2 ((Lz - 1).toNat - (j + 1)) % 256).toNat) (by omega)
          refine lv_iload jx jb d_RowCoder_putRow_57 (lv_at jl 4 rfl) ?_
          refine lv_aload_n jx jb d_RowCoder_putRow_59 rfl (lv_at jl 2 rfl) ?_
          refine lv_aload_n jx jb d_RowCoder_putRow_60 rfl (lv_at jl 3 rfl) ?_
          refine z_backi (wr := [(hz, .inr (0, [.ref hbz, .int (iZ Lz), .int (iZ hdz), .int (iZ hnz), .int (iZ ovz), .int (iZ tsz), .int (iZ tbz)])), (hbz, .inl (cB, 6000, .inl (zA f2)))]) jP jD jS jA [2, 3, 4, 5, 6, 7] [0, 1] rfl rfl (by decide) (by decide) (va_runS (As := [.int (iZ (f2 ((Lz - 1).toNat - (j + 1)) % 256)), .int (iZ ((ecS gP gS o (fun k => f2 k % 256) (Lz - 1).toNat j).1 : Int)), .ref qs, .ref h]) (rest := []) ⟨jx, jb, jml, jown, jts⟩ (c_RC_putStep l D cI cB cZ H.size qs pP pS pB pA pC pF pN o gP gS gB gA gC gF h hb L3 hd3 hn3 ov3 ts tb f3 ((ecS gP gS o (fun k => f2 k % 256) (Lz - 1).toNat j).2.1) ((ecS gP gS o (fun k => f2 k % 256) (Lz - 1).toNat j).2.2) (f2 ((Lz - 1).toNat - (j + 1)) % 256) ((ecS gP gS o (fun k => f2 k % 256) (Lz - 1).toNat j).1 : Int) (h2) (by first | assumption | omega) (ho) (hsh) (by omega) (by omega) (by omega) (by omega)) (zc_S 4 jts cd_RowCoder_putStep lk_RowCoder_33 st_RowCoder_putStep in_RowCoder hd_RowCoder_putStep ⟨Nat.le_of_ble_eq_true rfl, Nat.le_of_ble_eq_true rfl⟩ rfl rfl) (z_preS jK jP jD [2, 3, 4, 5, 6, 7] (by decide) rfl rfl) rfl rfl jl.1 rfl (lv_room (Nat.le_of_ble_eq_true rfl)) d_RowCoder_putRow_61 ⟨Nat.le_of_ble_eq_true rfl, Nat.le_of_ble_eq_true rfl⟩) (fun z61 u61 H locs hz61 jP jD jS => ?_)
          obtain ⟨L1_61, hd1_61, hn1_61, ov1_61, f1_61⟩ := u61
          have jP : va_P D classes [(hz, .inr (0, [.ref hbz, .int (iZ Lz), .int (iZ hdz), .int (iZ hnz), .int (iZ ovz), .int (iZ tsz), .int (iZ tbz)])), (hbz, .inl (cB, 6000, .inl (zA f2))), (qs, .inr (1, [.ref pP, .ref pS, .ref pB, .ref pA, .ref pC, .ref pF, .ref pN, .int (iZ (o : Int))])), (pP, .inl (cI, 256, .inl (zA gP))), (pF, .inl (cI, 256, .inl (zA gF))), (pC, .inl (cI, 4096, .inl (zA gC))), (h, .inr (0, [.ref hb, .int (iZ L1_61), .int (iZ hd1_61), .int (iZ hn1_61), .int (iZ ov1_61), .int (iZ ts), .int (iZ tb)])), (hb, .inl (cB, 6000, .inl (zA f1_61)))] H := jP.sub [0, 1, 2, 3, 4, 5, 6, 7] rfl
          have jD : va_D A [(hz, .inr (0, [.ref hbz, .int (iZ Lz), .int (iZ hdz), .int (iZ hnz), .int (iZ ovz), .int (iZ tsz), .int (iZ tbz)])), (hbz, .inl (cB, 6000, .inl (zA f2))), (qs, .inr (1, [.ref pP, .ref pS, .ref pB, .ref pA, .ref pC, .ref pF, .ref pN, .int (iZ (o : Int))])), (pP, .inl (cI, 256, .inl (zA gP))), (pF, .inl (cI, 256, .inl (zA gF))), (pC, .inl (cI, 4096, .inl (zA gC))), (h, .inr (0, [.ref hb, .int (iZ L1_61), .int (iZ hd1_61), .int (iZ hn1_61), .int (iZ ov1_61), .int (iZ ts), .int (iZ tb)])), (hb, .inl (cB, 6000, .inl (zA f1_61)))] := jD.sub [0, 1, 2, 3, 4, 5, 6, 7] (by decide) rfl
          obtain ⟨rfl, hr61⟩ := hz61
          refine lv_istore (lv' := [(5, .int (iZ (fcF gS (f2 ((Lz - 1).toNat - (j + 1)) % 256) ((((ecS gP gS o (fun k => f2 k % 256) (Lz - 1).toNat j).1 : Int) + 2 ^ o) / 2 ^ (enN (((ecS gP gS o (fun k => f2 k % 256) (Lz - 1).toNat j).1 : Int) + 2 ^ o) (wgt (gP (f2 ((Lz - 1).toNat - (j + 1)) % 256).toNat)) (o + 1)) - (wgt (gP (f2 ((Lz - 1).toNat - (j + 1)) % 256).toNat))) (2 ^ o) : Int))), (0, .ref hz), (1, .int (iZ a)), (2, .ref qs), (3, .ref h), (6, .int (iZ (Lz - 2 - (j : Int))))]) jx jb d_RowCoder_putRow_64 jl (by decide) rfl (fun ls jl => ?_)
          refine lv_iinc (v := iZ (Lz - 2 - ((j + 1 : Nat) : Int))) (lv' := [(6, .int (iZ (Lz - 2 - ((j + 1 : Nat) : Int)))), (5, .int (iZ (fcF gS (f2 ((Lz - 1).toNat - (j + 1)) % 256) ((((ecS gP gS o (fun k => f2 k % 256) (Lz - 1).toNat j).1 : Int) + 2 ^ o) / 2 ^ (enN (((ecS gP gS o (fun k => f2 k % 256) (Lz - 1).toNat j).1 : Int) + 2 ^ o) (wgt (gP (f2 ((Lz - 1).toNat - (j + 1)) % 256).toNat)) (o + 1)) - (wgt (gP (f2 ((Lz - 1).toNat - (j + 1)) % 256).toNat))) (2 ^ o) : Int))), (0, .ref hz), (1, .int (iZ a)), (2, .ref qs), (3, .ref h)]) jx jb d_RowCoder_putRow_66 jl (k := 5) rfl (by rw [show (Lz - 2 - ((j + 1 : Nat) : Int)) = (Lz - 2 - (j : Int)) + (-1) from by omega]; exact iZ_add _ _) (by decide) rfl (fun ls jl => ?_)
          refine lv_goto (tgt := 38) jx jb d_RowCoder_putRow_69 (by decide) ?_
          exact ih38 (j + 1) L1_61 hd1_61 hn1_61 ov1_61 f1_61 (by omega) (by first | assumption | omega) (hr61) _ _ (jP.sub [0, 1, 2, 3, 4, 5, 6, 7] rfl) (jD.sub [0, 1, 2, 3, 4, 5, 6, 7] (by decide) rfl) jS _ (lv_sub jl [2, 3, 4, 5, 1, 0] rfl)
  exact hloop38 (((Lz - 1 - a).toNat - 0) + 1) 0 0 0 0 0 f (Nat.lt_succ_self _) (by first | assumption | omega) (rI_0 hfr) _ _ (jP.sub [0, 1, 2, 3, 4, 5, 6, 7] rfl) (jD.sub [0, 1, 2, 3, 4, 5, 6, 7] (by decide) rfl) jS _ (lv_sub jl [3, 4, 5, 6, 1, 0] rfl)
