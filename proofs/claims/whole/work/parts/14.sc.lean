theorem fl_SC_55 : Cond.fieldLink R_SC 55 "StateCoder" "position" "I" ∈ zT := zT_of (List.mem_of_getElem? (i := 138) (by decide +kernel)) rfl
theorem cd_Row_length : Cond.code y_Row_length b_Row_length 1 (some .int) ∈ zT := zT_of (List.mem_of_getElem? (i := 163) (by decide +kernel)) rfl
theorem hd_Row_length : y_Row_length.cls ≠ "java/lang/invoke/MethodHandle" ∧ y_Row_length.cls ≠ "java/lang/invoke/VarHandle" ∧ (parseMethodDescriptor y_Row_length.desc).map (fun d => d.parameters.length) = some 0 := by decide +kernel
theorem lk_SC_43 : Cond.methodLink R_SC 43 y_Row_length ∈ zT := zT_of (List.mem_of_getElem? (i := 160) (by decide +kernel)) rfl
theorem im_Row_length : Cond.instanceMethod y_Row_length ∈ zT := zT_of (List.mem_of_getElem? (i := 161) (by decide +kernel)) rfl
theorem se_Row_length : Cond.selects R_Row y_Row_length y_Row_length ∈ zT := zT_of (List.mem_of_getElem? (i := 162) (by decide +kernel)) rfl
theorem lk_SC_73 : Cond.methodLink R_SC 73 y_Row_byteOrZero ∈ zT := zT_of (List.mem_of_getElem? (i := 211) (by decide +kernel)) rfl
theorem lk_SC_68 : Cond.methodLink R_SC 68 y_SC_isSymbol ∈ zT := zT_of (List.mem_of_getElem? (i := 203) (by decide +kernel)) rfl
theorem cn_SC_72 : Cond.constant R_SC 72 (iZ 65535) ∈ zT := zT_of (List.mem_of_getElem? (i := 206) (by decide +kernel)) rfl
theorem cd_Row_copyFrom : Cond.code y_Row_copyFrom b_Row_copyFrom 2 none ∈ zT := zT_of (List.mem_of_getElem? (i := 175) (by decide +kernel)) rfl
theorem hd_Row_copyFrom : y_Row_copyFrom.cls ≠ "java/lang/invoke/MethodHandle" ∧ y_Row_copyFrom.cls ≠ "java/lang/invoke/VarHandle" ∧ (parseMethodDescriptor y_Row_copyFrom.desc).map (fun d => d.parameters.length) = some 1 := by decide +kernel
theorem lk_SC_51 : Cond.methodLink R_SC 51 y_Row_copyFrom ∈ zT := zT_of (List.mem_of_getElem? (i := 172) (by decide +kernel)) rfl
theorem im_Row_copyFrom : Cond.instanceMethod y_Row_copyFrom ∈ zT := zT_of (List.mem_of_getElem? (i := 173) (by decide +kernel)) rfl
theorem se_Row_copyFrom : Cond.selects R_Row y_Row_copyFrom y_Row_copyFrom ∈ zT := zT_of (List.mem_of_getElem? (i := 174) (by decide +kernel)) rfl
theorem lk_SC_91 : Cond.methodLink R_SC 91 y_Share_exists ∈ zT := zT_of (List.mem_of_getElem? (i := 307) (by decide +kernel)) rfl
theorem cd_Share_lastSymbol : Cond.code y_Share_lastSymbol b_Share_lastSymbol 2 (some .int) ∈ zT := zT_of (List.mem_of_getElem? (i := 399) (by decide +kernel)) rfl
theorem hd_Share_lastSymbol : y_Share_lastSymbol.cls ≠ "java/lang/invoke/MethodHandle" ∧ y_Share_lastSymbol.cls ≠ "java/lang/invoke/VarHandle" ∧ (parseMethodDescriptor y_Share_lastSymbol.desc).map (fun d => d.parameters.length) = some 0 := by decide +kernel
theorem lk_SC_116 : Cond.methodLink R_SC 116 y_Share_lastSymbol ∈ zT := zT_of (List.mem_of_getElem? (i := 396) (by decide +kernel)) rfl
theorem im_Share_lastSymbol : Cond.instanceMethod y_Share_lastSymbol ∈ zT := zT_of (List.mem_of_getElem? (i := 397) (by decide +kernel)) rfl
theorem se_Share_lastSymbol : Cond.selects R_Share y_Share_lastSymbol y_Share_lastSymbol ∈ zT := zT_of (List.mem_of_getElem? (i := 398) (by decide +kernel)) rfl
theorem cd_Share_order : Cond.code y_Share_order b_Share_order 1 (some .int) ∈ zT := zT_of (List.mem_of_getElem? (i := 315) (by decide +kernel)) rfl
theorem hd_Share_order : y_Share_order.cls ≠ "java/lang/invoke/MethodHandle" ∧ y_Share_order.cls ≠ "java/lang/invoke/VarHandle" ∧ (parseMethodDescriptor y_Share_order.desc).map (fun d => d.parameters.length) = some 0 := by decide +kernel
theorem lk_SC_113 : Cond.methodLink R_SC 113 y_Share_order ∈ zT := zT_of (List.mem_of_getElem? (i := 395) (by decide +kernel)) rfl
theorem im_Share_order : Cond.instanceMethod y_Share_order ∈ zT := zT_of (List.mem_of_getElem? (i := 313) (by decide +kernel)) rfl
theorem se_Share_order : Cond.selects R_Share y_Share_order y_Share_order ∈ zT := zT_of (List.mem_of_getElem? (i := 314) (by decide +kernel)) rfl
theorem lk_SC_119 : Cond.methodLink R_SC 119 y_Share_pointsOf ∈ zT := zT_of (List.mem_of_getElem? (i := 404) (by decide +kernel)) rfl
theorem lk_SC_47 : Cond.methodLink R_SC 47 y_Row_add ∈ zT := zT_of (List.mem_of_getElem? (i := 164) (by decide +kernel)) rfl
theorem lk_SC_122 : Cond.methodLink R_SC 122 y_Share_hasCell ∈ zT := zT_of (List.mem_of_getElem? (i := 409) (by decide +kernel)) rfl
theorem cd_Share_symbolOf : Cond.code y_Share_symbolOf b_Share_symbolOf 2 (some .int) ∈ zT := zT_of (List.mem_of_getElem? (i := 413) (by decide +kernel)) rfl
theorem hd_Share_symbolOf : y_Share_symbolOf.cls ≠ "java/lang/invoke/MethodHandle" ∧ y_Share_symbolOf.cls ≠ "java/lang/invoke/VarHandle" ∧ (parseMethodDescriptor y_Share_symbolOf.desc).map (fun d => d.parameters.length) = some 1 := by decide +kernel
theorem lk_SC_125 : Cond.methodLink R_SC 125 y_Share_symbolOf ∈ zT := zT_of (List.mem_of_getElem? (i := 410) (by decide +kernel)) rfl
theorem im_Share_symbolOf : Cond.instanceMethod y_Share_symbolOf ∈ zT := zT_of (List.mem_of_getElem? (i := 411) (by decide +kernel)) rfl
theorem se_Share_symbolOf : Cond.selects R_Share y_Share_symbolOf y_Share_symbolOf ∈ zT := zT_of (List.mem_of_getElem? (i := 412) (by decide +kernel)) rfl
theorem cd_Share_bitsOf : Cond.code y_Share_bitsOf b_Share_bitsOf 2 (some .int) ∈ zT := zT_of (List.mem_of_getElem? (i := 417) (by decide +kernel)) rfl
theorem hd_Share_bitsOf : y_Share_bitsOf.cls ≠ "java/lang/invoke/MethodHandle" ∧ y_Share_bitsOf.cls ≠ "java/lang/invoke/VarHandle" ∧ (parseMethodDescriptor y_Share_bitsOf.desc).map (fun d => d.parameters.length) = some 1 := by decide +kernel
theorem lk_SC_128 : Cond.methodLink R_SC 128 y_Share_bitsOf ∈ zT := zT_of (List.mem_of_getElem? (i := 414) (by decide +kernel)) rfl
theorem im_Share_bitsOf : Cond.instanceMethod y_Share_bitsOf ∈ zT := zT_of (List.mem_of_getElem? (i := 415) (by decide +kernel)) rfl
theorem se_Share_bitsOf : Cond.selects R_Share y_Share_bitsOf y_Share_bitsOf ∈ zT := zT_of (List.mem_of_getElem? (i := 416) (by decide +kernel)) rfl
theorem cd_Share_baseOf : Cond.code y_Share_baseOf b_Share_baseOf 2 (some .int) ∈ zT := zT_of (List.mem_of_getElem? (i := 421) (by decide +kernel)) rfl
theorem hd_Share_baseOf : y_Share_baseOf.cls ≠ "java/lang/invoke/MethodHandle" ∧ y_Share_baseOf.cls ≠ "java/lang/invoke/VarHandle" ∧ (parseMethodDescriptor y_Share_baseOf.desc).map (fun d => d.parameters.length) = some 1 := by decide +kernel
theorem lk_SC_131 : Cond.methodLink R_SC 131 y_Share_baseOf ∈ zT := zT_of (List.mem_of_getElem? (i := 418) (by decide +kernel)) rfl
theorem im_Share_baseOf : Cond.instanceMethod y_Share_baseOf ∈ zT := zT_of (List.mem_of_getElem? (i := 419) (by decide +kernel)) rfl
theorem se_Share_baseOf : Cond.selects R_Share y_Share_baseOf y_Share_baseOf ∈ zT := zT_of (List.mem_of_getElem? (i := 420) (by decide +kernel)) rfl
theorem d_SC_at_0 : decode b_SC_at 0 = .ok (.aload_n 0, 1) := by decide +kernel
theorem d_SC_at_1 : decode b_SC_at 1 = .ok (.getfield 55, 3) := by decide +kernel
theorem d_SC_at_4 : decode b_SC_at 4 = .ok (.ireturn, 1) := by decide +kernel
theorem d_SC_size_0 : decode b_SC_size 0 = .ok (.aload_n 0, 1) := by decide +kernel
theorem d_SC_size_1 : decode b_SC_size 1 = .ok (.getfield 37, 3) := by decide +kernel
theorem d_SC_size_4 : decode b_SC_size 4 = .ok (.invokevirtual 43, 3) := by decide +kernel
theorem d_SC_size_7 : decode b_SC_size 7 = .ok (.ireturn, 1) := by decide +kernel
theorem d_SC_byteAt_0 : decode b_SC_byteAt 0 = .ok (.iload_n 1, 1) := by decide +kernel
theorem d_SC_byteAt_1 : decode b_SC_byteAt 1 = .ok (.ifCond .lt 14, 3) := by decide +kernel
theorem d_SC_byteAt_4 : decode b_SC_byteAt 4 = .ok (.iload_n 1, 1) := by decide +kernel
theorem d_SC_byteAt_5 : decode b_SC_byteAt 5 = .ok (.aload_n 0, 1) := by decide +kernel
theorem d_SC_byteAt_6 : decode b_SC_byteAt 6 = .ok (.getfield 37, 3) := by decide +kernel
theorem d_SC_byteAt_9 : decode b_SC_byteAt 9 = .ok (.invokevirtual 43, 3) := by decide +kernel
theorem d_SC_byteAt_12 : decode b_SC_byteAt 12 = .ok (.if_icmp .lt 7, 3) := by decide +kernel
theorem d_SC_byteAt_15 : decode b_SC_byteAt 15 = .ok (.iconst (-1), 1) := by decide +kernel
theorem d_SC_byteAt_16 : decode b_SC_byteAt 16 = .ok (.goto 11, 3) := by decide +kernel
theorem d_SC_byteAt_19 : decode b_SC_byteAt 19 = .ok (.aload_n 0, 1) := by decide +kernel
theorem d_SC_byteAt_20 : decode b_SC_byteAt 20 = .ok (.getfield 37, 3) := by decide +kernel
theorem d_SC_byteAt_23 : decode b_SC_byteAt 23 = .ok (.iload_n 1, 1) := by decide +kernel
theorem d_SC_byteAt_24 : decode b_SC_byteAt 24 = .ok (.invokevirtual 73, 3) := by decide +kernel
theorem d_SC_byteAt_27 : decode b_SC_byteAt 27 = .ok (.ireturn, 1) := by decide +kernel
theorem d_SC_place_0 : decode b_SC_place 0 = .ok (.iload_n 1, 1) := by decide +kernel
theorem d_SC_place_1 : decode b_SC_place 1 = .ok (.ifCond .lt 14, 3) := by decide +kernel
theorem d_SC_place_4 : decode b_SC_place 4 = .ok (.iload_n 1, 1) := by decide +kernel
theorem d_SC_place_5 : decode b_SC_place 5 = .ok (.aload_n 0, 1) := by decide +kernel
theorem d_SC_place_6 : decode b_SC_place 6 = .ok (.getfield 19, 3) := by decide +kernel
theorem d_SC_place_9 : decode b_SC_place 9 = .ok (.invokevirtual 43, 3) := by decide +kernel
theorem d_SC_place_12 : decode b_SC_place 12 = .ok (.if_icmp .le 5, 3) := by decide +kernel
theorem d_SC_place_15 : decode b_SC_place 15 = .ok (.iconst 0, 1) := by decide +kernel
theorem d_SC_place_16 : decode b_SC_place 16 = .ok (.ireturn, 1) := by decide +kernel
theorem d_SC_place_17 : decode b_SC_place 17 = .ok (.aload_n 0, 1) := by decide +kernel
theorem d_SC_place_18 : decode b_SC_place 18 = .ok (.iload_n 1, 1) := by decide +kernel
theorem d_SC_place_19 : decode b_SC_place 19 = .ok (.putfield 55, 3) := by decide +kernel
theorem d_SC_place_22 : decode b_SC_place 22 = .ok (.iconst 1, 1) := by decide +kernel
theorem d_SC_place_23 : decode b_SC_place 23 = .ok (.ireturn, 1) := by decide +kernel
theorem d_SC_count_0 : decode b_SC_count 0 = .ok (.iload_n 1, 1) := by decide +kernel
theorem d_SC_count_1 : decode b_SC_count 1 = .ok (.invokestatic 68, 3) := by decide +kernel
theorem d_SC_count_4 : decode b_SC_count 4 = .ok (.ifCond .eq 13, 3) := by decide +kernel
theorem d_SC_count_7 : decode b_SC_count 7 = .ok (.iload_n 2, 1) := by decide +kernel
theorem d_SC_count_8 : decode b_SC_count 8 = .ok (.ifCond .lt 9, 3) := by decide +kernel
theorem d_SC_count_11 : decode b_SC_count 11 = .ok (.iload_n 2, 1) := by decide +kernel
theorem d_SC_count_12 : decode b_SC_count 12 = .ok (.ldc 72, 2) := by decide +kernel
theorem d_SC_count_14 : decode b_SC_count 14 = .ok (.if_icmp .le 5, 3) := by decide +kernel
theorem d_SC_count_17 : decode b_SC_count 17 = .ok (.iconst 0, 1) := by decide +kernel
theorem d_SC_count_18 : decode b_SC_count 18 = .ok (.ireturn, 1) := by decide +kernel
theorem d_SC_count_19 : decode b_SC_count 19 = .ok (.aload_n 0, 1) := by decide +kernel
theorem d_SC_count_20 : decode b_SC_count 20 = .ok (.getfield 9, 3) := by decide +kernel
theorem d_SC_count_23 : decode b_SC_count 23 = .ok (.iload_n 1, 1) := by decide +kernel
theorem d_SC_count_24 : decode b_SC_count 24 = .ok (.iload_n 2, 1) := by decide +kernel
theorem d_SC_count_25 : decode b_SC_count 25 = .ok (.iastore, 1) := by decide +kernel
theorem d_SC_count_26 : decode b_SC_count 26 = .ok (.iconst 1, 1) := by decide +kernel
theorem d_SC_count_27 : decode b_SC_count 27 = .ok (.ireturn, 1) := by decide +kernel
theorem d_SC_turn_0 : decode b_SC_turn 0 = .ok (.aload_n 0, 1) := by decide +kernel
theorem d_SC_turn_1 : decode b_SC_turn 1 = .ok (.getfield 19, 3) := by decide +kernel
theorem d_SC_turn_4 : decode b_SC_turn 4 = .ok (.aload_n 0, 1) := by decide +kernel
theorem d_SC_turn_5 : decode b_SC_turn 5 = .ok (.getfield 37, 3) := by decide +kernel
theorem d_SC_turn_8 : decode b_SC_turn 8 = .ok (.invokevirtual 51, 3) := by decide +kernel
theorem d_SC_turn_11 : decode b_SC_turn 11 = .ok (.aload_n 0, 1) := by decide +kernel
theorem d_SC_turn_12 : decode b_SC_turn 12 = .ok (.iconst 0, 1) := by decide +kernel
theorem d_SC_turn_13 : decode b_SC_turn 13 = .ok (.putfield 55, 3) := by decide +kernel
theorem d_SC_turn_16 : decode b_SC_turn 16 = .ok (.return_, 1) := by decide +kernel
theorem d_SC_about_0 : decode b_SC_about 0 = .ok (.aload_n 0, 1) := by decide +kernel
theorem d_SC_about_1 : decode b_SC_about 1 = .ok (.getfield 26, 3) := by decide +kernel
theorem d_SC_about_4 : decode b_SC_about 4 = .ok (.invokevirtual 91, 3) := by decide +kernel
theorem d_SC_about_7 : decode b_SC_about 7 = .ok (.ifCond .ne 5, 3) := by decide +kernel
theorem d_SC_about_10 : decode b_SC_about 10 = .ok (.iconst (-1), 1) := by decide +kernel
theorem d_SC_about_11 : decode b_SC_about 11 = .ok (.ireturn, 1) := by decide +kernel
theorem d_SC_about_12 : decode b_SC_about 12 = .ok (.iload_n 1, 1) := by decide +kernel
theorem d_SC_about_13 : decode b_SC_about 13 = .ok (.ifCond .ne 11, 3) := by decide +kernel
theorem d_SC_about_16 : decode b_SC_about 16 = .ok (.aload_n 0, 1) := by decide +kernel
theorem d_SC_about_17 : decode b_SC_about 17 = .ok (.getfield 26, 3) := by decide +kernel
theorem d_SC_about_20 : decode b_SC_about 20 = .ok (.invokevirtual 113, 3) := by decide +kernel
theorem d_SC_about_23 : decode b_SC_about 23 = .ok (.ireturn, 1) := by decide +kernel
theorem d_SC_about_24 : decode b_SC_about 24 = .ok (.iload_n 1, 1) := by decide +kernel
theorem d_SC_about_25 : decode b_SC_about 25 = .ok (.iconst 1, 1) := by decide +kernel
theorem d_SC_about_26 : decode b_SC_about 26 = .ok (.if_icmp .ne 13, 3) := by decide +kernel
theorem d_SC_about_29 : decode b_SC_about 29 = .ok (.aload_n 0, 1) := by decide +kernel
theorem d_SC_about_30 : decode b_SC_about 30 = .ok (.getfield 26, 3) := by decide +kernel
theorem d_SC_about_33 : decode b_SC_about 33 = .ok (.invokevirtual 116, 3) := by decide +kernel
theorem d_SC_about_36 : decode b_SC_about 36 = .ok (.goto 4, 3) := by decide +kernel
theorem d_SC_about_39 : decode b_SC_about 39 = .ok (.iconst (-1), 1) := by decide +kernel
theorem d_SC_about_40 : decode b_SC_about 40 = .ok (.ireturn, 1) := by decide +kernel
theorem d_SC_points_0 : decode b_SC_points 0 = .ok (.aload_n 0, 1) := by decide +kernel
theorem d_SC_points_1 : decode b_SC_points 1 = .ok (.getfield 26, 3) := by decide +kernel
theorem d_SC_points_4 : decode b_SC_points 4 = .ok (.invokevirtual 91, 3) := by decide +kernel
theorem d_SC_points_7 : decode b_SC_points 7 = .ok (.ifCond .eq 21, 3) := by decide +kernel
theorem d_SC_points_10 : decode b_SC_points 10 = .ok (.iload_n 1, 1) := by decide +kernel
theorem d_SC_points_11 : decode b_SC_points 11 = .ok (.invokestatic 68, 3) := by decide +kernel
theorem d_SC_points_14 : decode b_SC_points 14 = .ok (.ifCond .eq 14, 3) := by decide +kernel
theorem d_SC_points_17 : decode b_SC_points 17 = .ok (.aload_n 0, 1) := by decide +kernel
theorem d_SC_points_18 : decode b_SC_points 18 = .ok (.getfield 26, 3) := by decide +kernel
theorem d_SC_points_21 : decode b_SC_points 21 = .ok (.iload_n 1, 1) := by decide +kernel
theorem d_SC_points_22 : decode b_SC_points 22 = .ok (.invokevirtual 119, 3) := by decide +kernel
theorem d_SC_points_25 : decode b_SC_points 25 = .ok (.goto 5, 3) := by decide +kernel
theorem d_SC_points_28 : decode b_SC_points 28 = .ok (.bipush (-2), 2) := by decide +kernel
theorem d_SC_points_30 : decode b_SC_points 30 = .ok (.ireturn, 1) := by decide +kernel
theorem d_SC_makeSpareOut_0 : decode b_SC_makeSpareOut 0 = .ok (.aload_n 0, 1) := by decide +kernel
theorem d_SC_makeSpareOut_1 : decode b_SC_makeSpareOut 1 = .ok (.getfield 40, 3) := by decide +kernel
theorem d_SC_makeSpareOut_4 : decode b_SC_makeSpareOut 4 = .ok (.astore_n 1, 1) := by decide +kernel
theorem d_SC_makeSpareOut_5 : decode b_SC_makeSpareOut 5 = .ok (.aload_n 0, 1) := by decide +kernel
theorem d_SC_makeSpareOut_6 : decode b_SC_makeSpareOut 6 = .ok (.aload_n 0, 1) := by decide +kernel
theorem d_SC_makeSpareOut_7 : decode b_SC_makeSpareOut 7 = .ok (.getfield 37, 3) := by decide +kernel
theorem d_SC_makeSpareOut_10 : decode b_SC_makeSpareOut 10 = .ok (.putfield 40, 3) := by decide +kernel
theorem d_SC_makeSpareOut_13 : decode b_SC_makeSpareOut 13 = .ok (.aload_n 0, 1) := by decide +kernel
theorem d_SC_makeSpareOut_14 : decode b_SC_makeSpareOut 14 = .ok (.aload_n 1, 1) := by decide +kernel
theorem d_SC_makeSpareOut_15 : decode b_SC_makeSpareOut 15 = .ok (.putfield 37, 3) := by decide +kernel
theorem d_SC_makeSpareOut_18 : decode b_SC_makeSpareOut 18 = .ok (.return_, 1) := by decide +kernel
theorem d_SC_write_0 : decode b_SC_write 0 = .ok (.iload_n 3, 1) := by decide +kernel
theorem d_SC_write_1 : decode b_SC_write 1 = .ok (.iconst 1, 1) := by decide +kernel
theorem d_SC_write_2 : decode b_SC_write 2 = .ok (.if_icmp .lt 24, 3) := by decide +kernel
theorem d_SC_write_5 : decode b_SC_write 5 = .ok (.iload_n 3, 1) := by decide +kernel
theorem d_SC_write_6 : decode b_SC_write 6 = .ok (.bipush 8, 2) := by decide +kernel
theorem d_SC_write_8 : decode b_SC_write 8 = .ok (.if_icmp .gt 18, 3) := by decide +kernel
theorem d_SC_write_11 : decode b_SC_write 11 = .ok (.aload_n 0, 1) := by decide +kernel
theorem d_SC_write_12 : decode b_SC_write 12 = .ok (.getfield 19, 3) := by decide +kernel
theorem d_SC_write_15 : decode b_SC_write 15 = .ok (.invokevirtual 43, 3) := by decide +kernel
theorem d_SC_write_18 : decode b_SC_write 18 = .ok (.iload_n 3, 1) := by decide +kernel
theorem d_SC_write_19 : decode b_SC_write 19 = .ok (.iadd, 1) := by decide +kernel
theorem d_SC_write_20 : decode b_SC_write 20 = .ok (.sipush 6000, 3) := by decide +kernel
theorem d_SC_write_23 : decode b_SC_write 23 = .ok (.if_icmp .le 5, 3) := by decide +kernel
theorem d_SC_write_26 : decode b_SC_write 26 = .ok (.iconst 0, 1) := by decide +kernel
theorem d_SC_write_27 : decode b_SC_write 27 = .ok (.ireturn, 1) := by decide +kernel
theorem d_SC_write_28 : decode b_SC_write 28 = .ok (.iload_n 3, 1) := by decide +kernel
theorem d_SC_write_29 : decode b_SC_write 29 = .ok (.iconst 1, 1) := by decide +kernel
theorem d_SC_write_30 : decode b_SC_write 30 = .ok (.isub, 1) := by decide +kernel
theorem d_SC_write_31 : decode b_SC_write 31 = .ok (.istore 4, 2) := by decide +kernel
theorem d_SC_write_33 : decode b_SC_write 33 = .ok (.iload 4, 2) := by decide +kernel
theorem d_SC_write_35 : decode b_SC_write 35 = .ok (.ifCond .lt 28, 3) := by decide +kernel
theorem d_SC_write_38 : decode b_SC_write 38 = .ok (.aload_n 0, 1) := by decide +kernel
theorem d_SC_write_39 : decode b_SC_write 39 = .ok (.getfield 19, 3) := by decide +kernel
theorem d_SC_write_42 : decode b_SC_write 42 = .ok (.lload_n 1, 1) := by decide +kernel
theorem d_SC_write_43 : decode b_SC_write 43 = .ok (.bipush 8, 2) := by decide +kernel
theorem d_SC_write_45 : decode b_SC_write 45 = .ok (.iload 4, 2) := by decide +kernel
theorem d_SC_write_47 : decode b_SC_write 47 = .ok (.imul, 1) := by decide +kernel
theorem d_SC_write_48 : decode b_SC_write 48 = .ok (.lshr, 1) := by decide +kernel
theorem d_SC_write_49 : decode b_SC_write 49 = .ok (.l2i, 1) := by decide +kernel
theorem d_SC_write_50 : decode b_SC_write 50 = .ok (.sipush 255, 3) := by decide +kernel
theorem d_SC_write_53 : decode b_SC_write 53 = .ok (.iand, 1) := by decide +kernel
theorem d_SC_write_54 : decode b_SC_write 54 = .ok (.invokevirtual 47, 3) := by decide +kernel
theorem d_SC_write_57 : decode b_SC_write 57 = .ok (.iinc 4 (-1), 3) := by decide +kernel
theorem d_SC_write_60 : decode b_SC_write 60 = .ok (.goto (-27), 3) := by decide +kernel
theorem d_SC_write_63 : decode b_SC_write 63 = .ok (.iconst 1, 1) := by decide +kernel
theorem d_SC_write_64 : decode b_SC_write 64 = .ok (.ireturn, 1) := by decide +kernel
theorem d_SC_cell_0 : decode b_SC_cell 0 = .ok (.aload_n 0, 1) := by decide +kernel
theorem d_SC_cell_1 : decode b_SC_cell 1 = .ok (.getfield 26, 3) := by decide +kernel
theorem d_SC_cell_4 : decode b_SC_cell 4 = .ok (.iload_n 1, 1) := by decide +kernel
theorem d_SC_cell_5 : decode b_SC_cell 5 = .ok (.invokevirtual 122, 3) := by decide +kernel
theorem d_SC_cell_8 : decode b_SC_cell 8 = .ok (.ifCond .ne 5, 3) := by decide +kernel
theorem d_SC_cell_11 : decode b_SC_cell 11 = .ok (.iconst (-1), 1) := by decide +kernel
theorem d_SC_cell_12 : decode b_SC_cell 12 = .ok (.ireturn, 1) := by decide +kernel
theorem d_SC_cell_13 : decode b_SC_cell 13 = .ok (.iload_n 2, 1) := by decide +kernel
theorem d_SC_cell_14 : decode b_SC_cell 14 = .ok (.tableswitch 53 0 2 #[26, 35, 44], 26) := by decide +kernel
theorem d_SC_cell_40 : decode b_SC_cell 40 = .ok (.aload_n 0, 1) := by decide +kernel
theorem d_SC_cell_41 : decode b_SC_cell 41 = .ok (.getfield 26, 3) := by decide +kernel
theorem d_SC_cell_44 : decode b_SC_cell 44 = .ok (.iload_n 1, 1) := by decide +kernel
theorem d_SC_cell_45 : decode b_SC_cell 45 = .ok (.invokevirtual 125, 3) := by decide +kernel
theorem d_SC_cell_48 : decode b_SC_cell 48 = .ok (.ireturn, 1) := by decide +kernel
theorem d_SC_cell_49 : decode b_SC_cell 49 = .ok (.aload_n 0, 1) := by decide +kernel
theorem d_SC_cell_50 : decode b_SC_cell 50 = .ok (.getfield 26, 3) := by decide +kernel
theorem d_SC_cell_53 : decode b_SC_cell 53 = .ok (.iload_n 1, 1) := by decide +kernel
theorem d_SC_cell_54 : decode b_SC_cell 54 = .ok (.invokevirtual 128, 3) := by decide +kernel
theorem d_SC_cell_57 : decode b_SC_cell 57 = .ok (.ireturn, 1) := by decide +kernel
theorem d_SC_cell_58 : decode b_SC_cell 58 = .ok (.aload_n 0, 1) := by decide +kernel
theorem d_SC_cell_59 : decode b_SC_cell 59 = .ok (.getfield 26, 3) := by decide +kernel
theorem d_SC_cell_62 : decode b_SC_cell 62 = .ok (.iload_n 1, 1) := by decide +kernel
theorem d_SC_cell_63 : decode b_SC_cell 63 = .ok (.invokevirtual 131, 3) := by decide +kernel
theorem d_SC_cell_66 : decode b_SC_cell 66 = .ok (.ireturn, 1) := by decide +kernel
theorem d_SC_cell_67 : decode b_SC_cell 67 = .ok (.iconst (-1), 1) := by decide +kernel
theorem d_SC_cell_68 : decode b_SC_cell 68 = .ok (.ireturn, 1) := by decide +kernel
abbrev rm_SC_at : Room := { frames := 0, cells := 0, slots := 0, locals := 0 }
set_option maxHeartbeats 4000000 in
set_option maxRecDepth 100000 in
theorem c_SC_at (l : Launch) (D : va_G) (cI cB cZ : ClassId) (g : Nat) (qc : Nat) (qp : Nat) (qi : Nat) (qs : Nat) (qr : Nat) (qo : Nat) (qx : Nat) (ps : Int) : Met l y_SC_at (.code y_SC_at b_SC_at 1 (some .int) :: zT) rm_SC_at (zRc D classes (TY cI cB cZ) [(g, .inr (3, [.ref qc, .ref qp, .ref qi, .ref qs, .ref qr, .ref qo, .ref qx, .int (iZ ps)]))] [.ref g]) (zSi (fun z => z = ps)) 0 0 (fun _ => False) := by
  refine z_ofr (by decide) (Nat.le_of_ble_eq_true rfl) (Or.inl rfl) ?_
  intro p e s m args below meth c Q E jP jK jret ls jl
  obtain ⟨jx, jb, jrt, jml, jown, jts, jlk⟩ := E
  have jown : s.vm.findClass R_SC = some m.cls := jown
  have jl : lv_has ls 1 [(0, .ref g)] := jl
  refine lv_aload_n jx jb d_SC_at_0 rfl (lv_at jl 0 rfl) ?_
  refine va_get (D := D) (ci := 3) (v := .int (iZ ps)) (C := R_SC) (T := F_SC) (N := 8) jx jb jts i_SC jown jK.1 jP 0 rfl rfl 7 (by decide) (jts _ fl_SC_55) (fun _ h9 => h9) rfl d_SC_at_1 ?_
  exact jret _ _ _ (Or.inl rfl) (rfl) d_SC_at_4
abbrev rm_SC_size : Room := { frames := 1, cells := 0, slots := 0, locals := 20 }
set_option maxHeartbeats 4000000 in
set_option maxRecDepth 100000 in
theorem c_SC_size (l : Launch) (D : va_G) (cI cB cZ : ClassId) (g : Nat) (qc : Nat) (qp : Nat) (qi : Nat) (qs : Nat) (qr : Nat) (qo : Nat) (qx : Nat) (ps : Int) (bo : Nat) (Lo : Int) (hdo : Int) (hno : Int) (ovo : Int) (tso : Int) (tbo : Int) : Met l y_SC_size (.code y_SC_size b_SC_size 1 (some .int) :: zT) rm_SC_size (zRc D classes (TY cI cB cZ) [(g, .inr (3, [.ref qc, .ref qp, .ref qi, .ref qs, .ref qr, .ref qo, .ref qx, .int (iZ ps)])), (qo, .inr (0, [.ref bo, .int (iZ Lo), .int (iZ hdo), .int (iZ hno), .int (iZ ovo), .int (iZ tso), .int (iZ tbo)]))] [.ref g]) (zSi (fun z => z = Lo)) 0 0 (fun _ => False) := by
  refine z_ofr (by decide) (Nat.le_of_ble_eq_true rfl) (Or.inl rfl) ?_
  intro p e s m args below meth c Q E jP jK jret ls jl
  obtain ⟨jx, jb, jrt, jml, jown, jts, jlk⟩ := E
  have jown : s.vm.findClass R_SC = some m.cls := jown
  have jl : lv_has ls 1 [(0, .ref g)] := jl
  refine lv_aload_n jx jb d_SC_size_0 rfl (lv_at jl 0 rfl) ?_
  refine va_get (D := D) (ci := 3) (v := .ref qo) (C := R_SC) (T := F_SC) (N := 8) jx jb jts i_SC jown jK.1 jP 0 rfl rfl 5 (by decide) (jts _ fl_SC_37) (fun _ h9 => h9) rfl d_SC_size_1 ?_
  refine z_backe (va_runV (As := []) (rest := []) ⟨jx, jb, jml, jown, jts⟩ (c_Row_length l D cI cB cZ qo bo Lo hdo hno ovo tso tbo) (zc_V 0 jts cd_Row_length lk_SC_43 im_Row_length se_Row_length in_Row hd_Row_length ⟨Nat.le_of_ble_eq_true rfl, Nat.le_of_ble_eq_true rfl⟩ rfl rfl) (z_preVR jK jP [1] rfl rfl rfl) rfl rfl jl.1 rfl (lv_room (Nat.le_of_ble_eq_true rfl)) d_SC_size_4 ⟨Nat.le_of_ble_eq_true rfl, Nat.le_of_ble_eq_true rfl⟩) ?_
  exact jret _ _ _ (Or.inl rfl) (rfl) d_SC_size_7
abbrev rm_SC_byteAt : Room := { frames := 1, cells := 0, slots := 0, locals := 21 }
set_option maxHeartbeats 4000000 in
set_option maxRecDepth 100000 in
theorem c_SC_byteAt (l : Launch) (D : va_G) (cI cB cZ : ClassId) (g : Nat) (qc : Nat) (qp : Nat) (qi : Nat) (qs : Nat) (qr : Nat) (qo : Nat) (qx : Nat) (ps : Int) (bo : Nat) (Lo : Int) (hdo : Int) (hno : Int) (ovo : Int) (tso : Int) (tbo : Int) (fo : Nat → Int) (k : Int) (hLo : 0 ≤ Lo ∧ Lo ≤ 6000) (hk : -2147483648 ≤ k ∧ k < 2147483648) : Met l y_SC_byteAt (.code y_SC_byteAt b_SC_byteAt 2 (some .int) :: zT) rm_SC_byteAt (zRc D classes (TY cI cB cZ) [(g, .inr (3, [.ref qc, .ref qp, .ref qi, .ref qs, .ref qr, .ref qo, .ref qx, .int (iZ ps)])), (qo, .inr (0, [.ref bo, .int (iZ Lo), .int (iZ hdo), .int (iZ hno), .int (iZ ovo), .int (iZ tso), .int (iZ tbo)])), (bo, .inl (cB, 6000, .inl (zA fo)))] [.ref g, .int (iZ k)]) (zSi (fun z => z = if 0 ≤ k ∧ k < Lo then fo k.toNat % 256 else -1)) 0 0 (fun _ => False) := by
  refine z_ofr (by decide) (Nat.le_of_ble_eq_true rfl) (Or.inl rfl) ?_
  intro p e s m args below meth c Q E jP jK jret ls jl
  obtain ⟨jx, jb, jrt, jml, jown, jts, jlk⟩ := E
  have jown : s.vm.findClass R_SC = some m.cls := jown
  have jl : lv_has ls 2 [(0, .ref g), (1, .int (iZ k))] := jl
  refine lv_iload_n jx jb d_SC_byteAt_0 rfl (lv_at jl 1 rfl) ?_
  refine z_if_lt (tgt := 15) jx jb d_SC_byteAt_1 (by decide) ⟨by omega, by omega⟩ (fun hc1 => ?_) (fun hc1 => ?_)
  ·
    refine lv_iconst (v := iZ (-1)) jx jb d_SC_byteAt_15 rfl ?_
    refine lv_goto (tgt := 27) jx jb d_SC_byteAt_16 (by decide) ?_
    exact jret _ _ _ (Or.inl rfl) (by first | exact (if_neg (by omega)).symm | (rw [if_pos (by omega)]; exact if_pos (by omega))) d_SC_byteAt_27
  ·
    refine lv_iload_n jx jb d_SC_byteAt_4 rfl (lv_at jl 1 rfl) ?_
    refine lv_aload_n jx jb d_SC_byteAt_5 rfl (lv_at jl 0 rfl) ?_
    refine va_get (D := D) (ci := 3) (v := .ref qo) (C := R_SC) (T := F_SC) (N := 8) jx jb jts i_SC jown jK.1 jP 0 rfl rfl 5 (by decide) (jts _ fl_SC_37) (fun _ h9 => h9) rfl d_SC_byteAt_6 ?_
    refine z_backe (va_runV (As := []) (rest := [.int (iZ k)]) ⟨jx, jb, jml, jown, jts⟩ (c_Row_length l D cI cB cZ qo bo Lo hdo hno ovo tso tbo) (zc_V 0 jts cd_Row_length lk_SC_43 im_Row_length se_Row_length in_Row hd_Row_length ⟨Nat.le_of_ble_eq_true rfl, Nat.le_of_ble_eq_true rfl⟩ rfl rfl) (z_preVR jK jP [1] rfl rfl rfl) rfl rfl jl.1 rfl (lv_room (Nat.le_of_ble_eq_true rfl)) d_SC_byteAt_9 ⟨Nat.le_of_ble_eq_true rfl, Nat.le_of_ble_eq_true rfl⟩) ?_
    refine z_icmp_lt (tgt := 19) jx jb d_SC_byteAt_12 (by decide) ⟨⟨by omega, by omega⟩, ⟨by omega, by omega⟩⟩ (fun hc12 => ?_) (fun hc12 => ?_)
    ·
      refine lv_aload_n jx jb d_SC_byteAt_19 rfl (lv_at jl 0 rfl) ?_
      refine va_get (D := D) (ci := 3) (v := .ref qo) (C := R_SC) (T := F_SC) (N := 8) jx jb jts i_SC jown jK.1 jP 0 rfl rfl 5 (by decide) (jts _ fl_SC_37) (fun _ h9 => h9) rfl d_SC_byteAt_20 ?_
      refine lv_iload_n jx jb d_SC_byteAt_23 rfl (lv_at jl 1 rfl) ?_
      refine z_backe (va_runV (As := [.int (iZ k)]) (rest := []) ⟨jx, jb, jml, jown, jts⟩ (c_Row_byteOrZero l D cI cB cZ qo bo Lo hdo hno ovo tso tbo fo k (by first | assumption | omega) (by first | assumption | omega)) (zc_V 1 jts cd_Row_byteOrZero lk_SC_73 im_Row_byteOrZero se_Row_byteOrZero in_Row hd_Row_byteOrZero ⟨Nat.le_of_ble_eq_true rfl, Nat.le_of_ble_eq_true rfl⟩ rfl rfl) (z_preVR jK jP [1, 2] rfl rfl rfl) rfl rfl jl.1 rfl (lv_room (Nat.le_of_ble_eq_true rfl)) d_SC_byteAt_24 ⟨Nat.le_of_ble_eq_true rfl, Nat.le_of_ble_eq_true rfl⟩) ?_
      exact jret _ _ _ (Or.inl rfl) (by first | exact (if_neg (by omega)).symm | (rw [if_pos (by omega)]; exact if_pos (by omega))) d_SC_byteAt_27
    ·
      refine lv_iconst (v := iZ (-1)) jx jb d_SC_byteAt_15 rfl ?_
      refine lv_goto (tgt := 27) jx jb d_SC_byteAt_16 (by decide) ?_
      exact jret _ _ _ (Or.inl rfl) (by first | exact (if_neg (by omega)).symm | (rw [if_pos (by omega)]; exact if_pos (by omega))) d_SC_byteAt_27
abbrev rm_SC_place : Room := { frames := 1, cells := 0, slots := 0, locals := 20 }
set_option maxHeartbeats 4000000 in
set_option maxRecDepth 100000 in
theorem c_SC_place (l : Launch) (D : va_G) (cI cB cZ : ClassId) (sz : Nat) (g : Nat) (qc : Nat) (qp : Nat) (qi : Nat) (qs : Nat) (qr : Nat) (qo : Nat) (qx : Nat) (ps : Int) (bi : Nat) (Li : Int) (hdi : Int) (hni : Int) (ovi : Int) (tsi : Int) (tbi : Int) (x : Int) (hLi : 0 ≤ Li ∧ Li ≤ 6000) (hx1 : -2147483648 ≤ x ∧ x < 2147483648) : Met l y_SC_place (.code y_SC_place b_SC_place 2 (some .boolean) :: zT) rm_SC_place (zPc D classes (TY cI cB cZ) [(g, .inr (3, [.ref qc, .ref qp, .ref qi, .ref qs, .ref qr, .ref qo, .ref qx, .int (iZ ps)])), (qi, .inr (0, [.ref bi, .int (iZ Li), .int (iZ hdi), .int (iZ hni), .int (iZ ovi), .int (iZ tsi), .int (iZ tbi)]))] sz [.ref g, .int (iZ x)]) (zFi (S := Int) D classes (fun z u => (z = 1 ∧ 0 ≤ x ∧ x ≤ Li ∧ u = x) ∨ (z = 0 ∧ (x < 0 ∨ Li < x) ∧ u = ps)) (fun u => [(g, .inr (3, [.ref qc, .ref qp, .ref qi, .ref qs, .ref qr, .ref qo, .ref qx, .int (iZ u)])), (qi, .inr (0, [.ref bi, .int (iZ Li), .int (iZ hdi), .int (iZ hni), .int (iZ ovi), .int (iZ tsi), .int (iZ tbi)]))]) (va_A [(g, .inr (3, [.ref qc, .ref qp, .ref qi, .ref qs, .ref qr, .ref qo, .ref qx, .int (iZ ps)])), (qi, .inr (0, [.ref bi, .int (iZ Li), .int (iZ hdi), .int (iZ hni), .int (iZ ovi), .int (iZ tsi), .int (iZ tbi)]))] sz)) 0 0 (va_A [(g, .inr (3, [.ref qc, .ref qp, .ref qi, .ref qs, .ref qr, .ref qo, .ref qx, .int (iZ ps)])), (qi, .inr (0, [.ref bi, .int (iZ Li), .int (iZ hdi), .int (iZ hni), .int (iZ ovi), .int (iZ tsi), .int (iZ tbi)]))] sz) := by
  refine z_ofi (by decide) (Nat.le_of_ble_eq_true rfl) (Or.inr rfl) ?_
  intro p e s m args below meth c A Q E jA jK jret H locs jP jD jS ls jl
  obtain ⟨jx, jb, jrt, jml, jown, jts, jlk⟩ := E
  have jown : s.vm.findClass R_SC = some m.cls := jown
  have jl : lv_has ls 2 [(0, .ref g), (1, .int (iZ x))] := jl
  refine lv_iload_n jx jb d_SC_place_0 rfl (lv_at jl 1 rfl) ?_
  refine z_if_lt (tgt := 15) jx jb d_SC_place_1 (by decide) ⟨by omega, by omega⟩ (fun hc1 => ?_) (fun hc1 => ?_)
  ·
    refine lv_iconst (v := iZ 0) jx jb d_SC_place_15 rfl ?_
    exact jret _ _ _ (ps) _ _ (Or.inr (Or.inl rfl)) (by omega) (jP.sub [0, 1] rfl) (jD.sub [0, 1] (by decide) rfl) jS d_SC_place_16
  ·
    refine lv_iload_n jx jb d_SC_place_4 rfl (lv_at jl 1 rfl) ?_
    refine lv_aload_n jx jb d_SC_place_5 rfl (lv_at jl 0 rfl) ?_
    refine va_get (D := D) (ci := 3) (v := .ref qi) (C := R_SC) (T := F_SC) (N := 8) jx jb jts i_SC jown jK.1 jP 0 rfl rfl 2 (by decide) (jts _ fl_SC_19) (fun _ h9 => h9) rfl d_SC_place_6 ?_
    refine z_backe (va_runV (As := []) (rest := [.int (iZ x)]) ⟨jx, jb, jml, jown, jts⟩ (c_Row_length l D cI cB cZ qi bi Li hdi hni ovi tsi tbi) (zc_V 0 jts cd_Row_length lk_SC_43 im_Row_length se_Row_length in_Row hd_Row_length ⟨Nat.le_of_ble_eq_true rfl, Nat.le_of_ble_eq_true rfl⟩ rfl rfl) (z_preVR jK jP [1] rfl rfl rfl) rfl rfl jl.1 rfl (lv_room (Nat.le_of_ble_eq_true rfl)) d_SC_place_9 ⟨Nat.le_of_ble_eq_true rfl, Nat.le_of_ble_eq_true rfl⟩) ?_
    refine z_icmp_le (tgt := 17) jx jb d_SC_place_12 (by decide) ⟨⟨by omega, by omega⟩, ⟨by omega, by omega⟩⟩ (fun hc12 => ?_) (fun hc12 => ?_)
    ·
      refine lv_aload_n jx jb d_SC_place_17 rfl (lv_at jl 0 rfl) ?_
      refine lv_iload_n jx jb d_SC_place_18 rfl (lv_at jl 1 rfl) ?_
      refine va_put (D := D) (ci := 3) (v := .int (iZ x)) (ty := .int) (C := R_SC) (T := F_SC) (N := 8) jx jb jts i_SC t_SC t_SC_ok n_SC jown jK.1 jP jD jS 0 rfl rfl 7 (by decide) (jts _ fl_SC_55) (fun _ h9 => h9) rfl (by decide +kernel) rfl rfl (Nat.le_of_ble_eq_true rfl) d_SC_place_19 (fun H locs jP jD jS => ?_)
      have jP : va_P D classes [(g, .inr (3, [.ref qc, .ref qp, .ref qi, .ref qs, .ref qr, .ref qo, .ref qx, .int (iZ x)])), (qi, .inr (0, [.ref bi, .int (iZ Li), .int (iZ hdi), .int (iZ hni), .int (iZ ovi), .int (iZ tsi), .int (iZ tbi)]))] H := jP
      have jD : va_D A [(g, .inr (3, [.ref qc, .ref qp, .ref qi, .ref qs, .ref qr, .ref qo, .ref qx, .int (iZ x)])), (qi, .inr (0, [.ref bi, .int (iZ Li), .int (iZ hdi), .int (iZ hni), .int (iZ ovi), .int (iZ tsi), .int (iZ tbi)]))] := jD
      refine lv_iconst (v := iZ 1) jx jb d_SC_place_22 rfl ?_
      exact jret _ _ _ (x) _ _ (Or.inr (Or.inr rfl)) (by omega) (jP.sub [0, 1] rfl) (jD.sub [0, 1] (by decide) rfl) jS d_SC_place_23
    ·
      refine lv_iconst (v := iZ 0) jx jb d_SC_place_15 rfl ?_
      exact jret _ _ _ (ps) _ _ (Or.inr (Or.inl rfl)) (by omega) (jP.sub [0, 1] rfl) (jD.sub [0, 1] (by decide) rfl) jS d_SC_place_16
abbrev rm_SC_count : Room := { frames := 1, cells := 0, slots := 0, locals := 20 }
set_option maxHeartbeats 4000000 in
set_option maxRecDepth 100000 in
theorem c_SC_count (l : Launch) (D : va_G) (cI cB cZ : ClassId) (sz : Nat) (g : Nat) (qc : Nat) (qp : Nat) (qi : Nat) (qs : Nat) (qr : Nat) (qo : Nat) (qx : Nat) (ps : Int) (fc : Nat → Int) (x : Int) (y : Int) (hx1 : -2147483648 ≤ x ∧ x < 2147483648) (hy1 : -2147483648 ≤ y ∧ y < 2147483648) : Met l y_SC_count (.code y_SC_count b_SC_count 3 (some .boolean) :: zT) rm_SC_count (zPc D classes (TY cI cB cZ) [(g, .inr (3, [.ref qc, .ref qp, .ref qi, .ref qs, .ref qr, .ref qo, .ref qx, .int (iZ ps)])), (qc, .inl (cI, 256, .inl (zA fc)))] sz [.ref g, .int (iZ x), .int (iZ y)]) (zFi (S := Nat → Int) D classes (fun z u => (z = 1 ∧ (0 ≤ x ∧ x < 256 ∧ 0 ≤ y ∧ y ≤ 65535) ∧ u = zu fc x.toNat y) ∨ (z = 0 ∧ ¬ (0 ≤ x ∧ x < 256 ∧ 0 ≤ y ∧ y ≤ 65535) ∧ u = fc)) (fun u => [(g, .inr (3, [.ref qc, .ref qp, .ref qi, .ref qs, .ref qr, .ref qo, .ref qx, .int (iZ ps)])), (qc, .inl (cI, 256, .inl (zA u)))]) (va_A [(g, .inr (3, [.ref qc, .ref qp, .ref qi, .ref qs, .ref qr, .ref qo, .ref qx, .int (iZ ps)])), (qc, .inl (cI, 256, .inl (zA fc)))] sz)) 0 0 (va_A [(g, .inr (3, [.ref qc, .ref qp, .ref qi, .ref qs, .ref qr, .ref qo, .ref qx, .int (iZ ps)])), (qc, .inl (cI, 256, .inl (zA fc)))] sz) := by
  refine z_ofi (by decide) (Nat.le_of_ble_eq_true rfl) (Or.inr rfl) ?_
  intro p e s m args below meth c A Q E jA jK jret H locs jP jD jS ls jl
  obtain ⟨jx, jb, jrt, jml, jown, jts, jlk⟩ := E
  have jown : s.vm.findClass R_SC = some m.cls := jown
  have jl : lv_has ls 3 [(0, .ref g), (1, .int (iZ x)), (2, .int (iZ y))] := jl
  refine lv_iload_n jx jb d_SC_count_0 rfl (lv_at jl 1 rfl) ?_
  refine z_backr (va_runS (As := [.int (iZ x)]) (rest := []) ⟨jx, jb, jml, jown, jts⟩ (c_isSymbol l D cI cB cZ x (by first | assumption | omega)) (zc_S 1 jts cd_SC_isSymbol lk_SC_68 st_SC_isSymbol in_SC hd_SC_isSymbol ⟨Nat.le_of_ble_eq_true rfl, Nat.le_of_ble_eq_true rfl⟩ rfl rfl) (z_preSR jK jP [] rfl) rfl rfl jl.1 rfl (lv_room (Nat.le_of_ble_eq_true rfl)) d_SC_count_1 ⟨Nat.le_of_ble_eq_true rfl, Nat.le_of_ble_eq_true rfl⟩) (fun z1 hz1 => ?_)
  rcases hz1 with ⟨rfl, hq1⟩ | ⟨rfl, hq1⟩
  ·
    refine z_if_eq (tgt := 17) jx jb d_SC_count_4 (by decide) ⟨by decide, by decide⟩ (fun hc4 => ?_) (fun hc4 => ?_)
    ·
      exact absurd hc4 (by decide)
    ·
      refine lv_iload_n jx jb d_SC_count_7 rfl (lv_at jl 2 rfl) ?_
      refine z_if_lt (tgt := 17) jx jb d_SC_count_8 (by decide) ⟨by omega, by omega⟩ (fun hc8 => ?_) (fun hc8 => ?_)
      ·
        refine lv_iconst (v := iZ 0) jx jb d_SC_count_17 rfl ?_
        exact jret _ _ _ (fc) _ _ (Or.inr (Or.inl rfl)) (Or.inr ⟨rfl, by omega, rfl⟩) (jP.sub [0, 1] rfl) (jD.sub [0, 1] (by decide) rfl) jS d_SC_count_18
      ·
        refine lv_iload_n jx jb d_SC_count_11 rfl (lv_at jl 2 rfl) ?_
        refine lv_ldc (v := iZ 65535) jx jb jown (jts _ cn_SC_72) d_SC_count_12 ?_
        refine z_icmp_le (tgt := 19) jx jb d_SC_count_14 (by decide) ⟨⟨by omega, by omega⟩, ⟨by decide, by decide⟩⟩ (fun hc14 => ?_) (fun hc14 => ?_)
        ·
          refine lv_aload_n jx jb d_SC_count_19 rfl (lv_at jl 0 rfl) ?_
          refine va_get (D := D) (ci := 3) (v := .ref qc) (C := R_SC) (T := F_SC) (N := 8) jx jb jts i_SC jown jK.1 jP 0 rfl rfl 0 (by decide) (jts _ fl_SC_9) (fun _ h9 => h9) rfl d_SC_count_20 ?_
          refine lv_iload_n jx jb d_SC_count_23 rfl (lv_at jl 1 rfl) ?_
          refine lv_iload_n jx jb d_SC_count_24 rfl (lv_at jl 2 rfl) ?_
          refine z_iast jx jb jK.1 jP jD jS 1 0 rfl rfl x.toNat (by omega) d_SC_count_25 (fun H locs jP jD jS => ?_)
          have jP : va_P D classes [(g, .inr (3, [.ref qc, .ref qp, .ref qi, .ref qs, .ref qr, .ref qo, .ref qx, .int (iZ ps)])), (qc, .inl (cI, 256, .inl (zA (zu fc x.toNat y))))] H := jP
          have jD : va_D A [(g, .inr (3, [.ref qc, .ref qp, .ref qi, .ref qs, .ref qr, .ref qo, .ref qx, .int (iZ ps)])), (qc, .inl (cI, 256, .inl (zA (zu fc x.toNat y))))] := jD
          refine lv_iconst (v := iZ 1) jx jb d_SC_count_26 rfl ?_
          exact jret _ _ _ ((zu fc x.toNat y)) _ _ (Or.inr (Or.inr rfl)) (Or.inl ⟨rfl, by omega, rfl⟩) (jP.sub [0, 1] rfl) (jD.sub [0, 1] (by decide) rfl) jS d_SC_count_27
        ·
          refine lv_iconst (v := iZ 0) jx jb d_SC_count_17 rfl ?_
          exact jret _ _ _ (fc) _ _ (Or.inr (Or.inl rfl)) (Or.inr ⟨rfl, by omega, rfl⟩) (jP.sub [0, 1] rfl) (jD.sub [0, 1] (by decide) rfl) jS d_SC_count_18
  ·
    refine z_if_eq (tgt := 17) jx jb d_SC_count_4 (by decide) ⟨by decide, by decide⟩ (fun hc4 => ?_) (fun hc4 => ?_)
    ·
      refine lv_iconst (v := iZ 0) jx jb d_SC_count_17 rfl ?_
      exact jret _ _ _ (fc) _ _ (Or.inr (Or.inl rfl)) (Or.inr ⟨rfl, by omega, rfl⟩) (jP.sub [0, 1] rfl) (jD.sub [0, 1] (by decide) rfl) jS d_SC_count_18
    ·
      exact absurd hc4 (by decide)
abbrev rm_SC_turn : Room := { frames := 2, cells := 0, slots := 0, locals := 81 }
set_option maxHeartbeats 4000000 in
set_option maxRecDepth 100000 in
theorem c_SC_turn (l : Launch) (D : va_G) (cI cB cZ : ClassId) (sz : Nat) (g : Nat) (qc : Nat) (qp : Nat) (qi : Nat) (qs : Nat) (qr : Nat) (qo : Nat) (qx : Nat) (ps : Int) (bi : Nat) (Li : Int) (hdi : Int) (hni : Int) (ovi : Int) (tsi : Int) (tbi : Int) (bo : Nat) (Lo : Int) (hdo : Int) (hno : Int) (ovo : Int) (tso : Int) (tbo : Int) (fi : Nat → Int) (fo : Nat → Int) (hf : ∀ k, -128 ≤ fo k ∧ fo k < 128) : Met l y_SC_turn (.code y_SC_turn b_SC_turn 1 none :: zT) rm_SC_turn (zPc D classes (TY cI cB cZ) [(g, .inr (3, [.ref qc, .ref qp, .ref qi, .ref qs, .ref qr, .ref qo, .ref qx, .int (iZ ps)])), (qi, .inr (0, [.ref bi, .int (iZ Li), .int (iZ hdi), .int (iZ hni), .int (iZ ovi), .int (iZ tsi), .int (iZ tbi)])), (bi, .inl (cB, 6000, .inl (zA fi))), (qo, .inr (0, [.ref bo, .int (iZ Lo), .int (iZ hdo), .int (iZ hno), .int (iZ ovo), .int (iZ tso), .int (iZ tbo)])), (bo, .inl (cB, 6000, .inl (zA fo)))] sz [.ref g]) (zFv (S := Unit) D classes (fun _u => True) (fun _u => [(g, .inr (3, [.ref qc, .ref qp, .ref qi, .ref qs, .ref qr, .ref qo, .ref qx, .int (iZ 0)])), (qi, .inr (0, [.ref bi, .int (iZ Lo), .int (iZ 0), .int (iZ 0), .int (iZ 0), .int (iZ tsi), .int (iZ tbi)])), (bi, .inl (cB, 6000, .inl (zA (fun k => if k < 6000 then fo k else fi k)))), (qo, .inr (0, [.ref bo, .int (iZ Lo), .int (iZ hdo), .int (iZ hno), .int (iZ ovo), .int (iZ tso), .int (iZ tbo)])), (bo, .inl (cB, 6000, .inl (zA fo)))]) (va_A [(g, .inr (3, [.ref qc, .ref qp, .ref qi, .ref qs, .ref qr, .ref qo, .ref qx, .int (iZ ps)])), (qi, .inr (0, [.ref bi, .int (iZ Li), .int (iZ hdi), .int (iZ hni), .int (iZ ovi), .int (iZ tsi), .int (iZ tbi)])), (bi, .inl (cB, 6000, .inl (zA fi))), (qo, .inr (0, [.ref bo, .int (iZ Lo), .int (iZ hdo), .int (iZ hno), .int (iZ ovo), .int (iZ tso), .int (iZ tbo)])), (bo, .inl (cB, 6000, .inl (zA fo)))] sz)) 0 0 (va_A [(g, .inr (3, [.ref qc, .ref qp, .ref qi, .ref qs, .ref qr, .ref qo, .ref qx, .int (iZ ps)])), (qi, .inr (0, [.ref bi, .int (iZ Li), .int (iZ hdi), .int (iZ hni), .int (iZ ovi), .int (iZ tsi), .int (iZ tbi)])), (bi, .inl (cB, 6000, .inl (zA fi))), (qo, .inr (0, [.ref bo, .int (iZ Lo), .int (iZ hdo), .int (iZ hno), .int (iZ ovo), .int (iZ tso), .int (iZ tbo)])), (bo, .inl (cB, 6000, .inl (zA fo)))] sz) := by
  refine z_ofv (by decide) (Nat.le_of_ble_eq_true rfl) rfl ?_
  intro p e s m args below meth c A Q E jmn jA jK jret H locs jP jD jS ls jl
  obtain ⟨jx, jb, jrt, jml, jown, jts, jlk⟩ := E
  have jown : s.vm.findClass R_SC = some m.cls := jown
  have jl : lv_has ls 1 [(0, .ref g)] := jl
  refine lv_aload_n jx jb d_SC_turn_0 rfl (lv_at jl 0 rfl) ?_
  refine va_get (D := D) (ci := 3) (v := .ref qi) (C := R_SC) (T := F_SC) (N := 8) jx jb jts i_SC jown jK.1 jP 0 rfl rfl 2 (by decide) (jts _ fl_SC_19) (fun _ h9 => h9) rfl d_SC_turn_1 ?_
  refine lv_aload_n jx jb d_SC_turn_4 rfl (lv_at jl 0 rfl) ?_
  refine va_get (D := D) (ci := 3) (v := .ref qo) (C := R_SC) (T := F_SC) (N := 8) jx jb jts i_SC jown jK.1 jP 0 rfl rfl 5 (by decide) (jts _ fl_SC_37) (fun _ h9 => h9) rfl d_SC_turn_5 ?_
  refine z_backv (wr := [(g, .inr (3, [.ref qc, .ref qp, .ref qi, .ref qs, .ref qr, .ref qo, .ref qx, .int (iZ ps)]))]) jP jD jS jA [1, 2, 3, 4] [0] rfl rfl (by decide) (by decide) (va_runV (As := [.ref qo]) (rest := []) ⟨jx, jb, jml, jown, jts⟩ (c_Row_copyFrom l D cI cB cZ H.size qi bi Li hdi hni ovi tsi tbi fi qo bo Lo hdo hno ovo tso tbo fo (by first | assumption | omega)) (zc_V 1 jts cd_Row_copyFrom lk_SC_51 im_Row_copyFrom se_Row_copyFrom in_Row hd_Row_copyFrom ⟨Nat.le_of_ble_eq_true rfl, Nat.le_of_ble_eq_true rfl⟩ rfl rfl) (z_preV jK jP jD [1, 2, 3, 4] (by decide) rfl rfl rfl rfl) rfl rfl jl.1 rfl (lv_room (Nat.le_of_ble_eq_true rfl)) d_SC_turn_8 ⟨Nat.le_of_ble_eq_true rfl, Nat.le_of_ble_eq_true rfl⟩) (fun u8 H locs hu8 jP jD jS => ?_)
  have jP : va_P D classes [(g, .inr (3, [.ref qc, .ref qp, .ref qi, .ref qs, .ref qr, .ref qo, .ref qx, .int (iZ ps)])), (qi, .inr (0, [.ref bi, .int (iZ Lo), .int (iZ 0), .int (iZ 0), .int (iZ 0), .int (iZ tsi), .int (iZ tbi)])), (bi, .inl (cB, 6000, .inl (zA (fun k => if k < 6000 then fo k else fi k)))), (qo, .inr (0, [.ref bo, .int (iZ Lo), .int (iZ hdo), .int (iZ hno), .int (iZ ovo), .int (iZ tso), .int (iZ tbo)])), (bo, .inl (cB, 6000, .inl (zA fo)))] H := jP.sub [0, 1, 2, 3, 4] rfl
  have jD : va_D A [(g, .inr (3, [.ref qc, .ref qp, .ref qi, .ref qs, .ref qr, .ref qo, .ref qx, .int (iZ ps)])), (qi, .inr (0, [.ref bi, .int (iZ Lo), .int (iZ 0), .int (iZ 0), .int (iZ 0), .int (iZ tsi), .int (iZ tbi)])), (bi, .inl (cB, 6000, .inl (zA (fun k => if k < 6000 then fo k else fi k)))), (qo, .inr (0, [.ref bo, .int (iZ Lo), .int (iZ hdo), .int (iZ hno), .int (iZ ovo), .int (iZ tso), .int (iZ tbo)])), (bo, .inl (cB, 6000, .inl (zA fo)))] := jD.sub [0, 1, 2, 3, 4] (by decide) rfl
  refine lv_aload_n jx jb d_SC_turn_11 rfl (lv_at jl 0 rfl) ?_
  refine lv_iconst (v := iZ 0) jx jb d_SC_turn_12 rfl ?_
  refine va_put (D := D) (ci := 3) (v := .int (iZ 0)) (ty := .int) (C := R_SC) (T := F_SC) (N := 8) jx jb jts i_SC t_SC t_SC_ok n_SC jown jK.1 jP jD jS 0 rfl rfl 7 (by decide) (jts _ fl_SC_55) (fun _ h9 => h9) rfl (by decide +kernel) rfl rfl (Nat.le_of_ble_eq_true rfl) d_SC_turn_13 (fun H locs jP jD jS => ?_)
  have jP : va_P D classes [(g, .inr (3, [.ref qc, .ref qp, .ref qi, .ref qs, .ref qr, .ref qo, .ref qx, .int (iZ 0)])), (qi, .inr (0, [.ref bi, .int (iZ Lo), .int (iZ 0), .int (iZ 0), .int (iZ 0), .int (iZ tsi), .int (iZ tbi)])), (bi, .inl (cB, 6000, .inl (zA (fun k => if k < 6000 then fo k else fi k)))), (qo, .inr (0, [.ref bo, .int (iZ Lo), .int (iZ hdo), .int (iZ hno), .int (iZ ovo), .int (iZ tso), .int (iZ tbo)])), (bo, .inl (cB, 6000, .inl (zA fo)))] H := jP
  have jD : va_D A [(g, .inr (3, [.ref qc, .ref qp, .ref qi, .ref qs, .ref qr, .ref qo, .ref qx, .int (iZ 0)])), (qi, .inr (0, [.ref bi, .int (iZ Lo), .int (iZ 0), .int (iZ 0), .int (iZ 0), .int (iZ tsi), .int (iZ tbi)])), (bi, .inl (cB, 6000, .inl (zA (fun k => if k < 6000 then fo k else fi k)))), (qo, .inr (0, [.ref bo, .int (iZ Lo), .int (iZ hdo), .int (iZ hno), .int (iZ ovo), .int (iZ tso), .int (iZ tbo)])), (bo, .inl (cB, 6000, .inl (zA fo)))] := jD
  exact jret _ _ () _ _ (trivial) (jP.sub [0, 1, 2, 3, 4] rfl) (jD.sub [0, 1, 2, 3, 4] (by decide) rfl) jS d_SC_turn_16
abbrev rm_SC_about : Room := { frames := 1, cells := 0, slots := 0, locals := 21 }
set_option maxHeartbeats 4000000 in
set_option maxRecDepth 100000 in
theorem c_SC_about (l : Launch) (D : va_G) (cI cB cZ : ClassId) (g : Nat) (qc : Nat) (qp : Nat) (qi : Nat) (qs : Nat) (qr : Nat) (qo : Nat) (qx : Nat) (ps : Int) (pP : Nat) (pS : Nat) (pB : Nat) (pA : Nat) (pC : Nat) (pF : Nat) (pN : Nat) (o : Nat) (gP : Nat → Int) (x : Int) (ho : o ≤ 12) (hpr : ∀ k, k < 256 → -1 ≤ gP k ∧ gP k ≤ 65536) (hx1 : -2147483648 ≤ x ∧ x < 2147483648) : Met l y_SC_about (.code y_SC_about b_SC_about 2 (some .int) :: zT) rm_SC_about (zRc D classes (TY cI cB cZ) [(g, .inr (3, [.ref qc, .ref qp, .ref qi, .ref qs, .ref qr, .ref qo, .ref qx, .int (iZ ps)])), (qs, .inr (1, [.ref pP, .ref pS, .ref pB, .ref pA, .ref pC, .ref pF, .ref pN, .int (iZ (o : Int))])), (pP, .inl (cI, 256, .inl (zA gP)))] [.ref g, .int (iZ x)]) (zSi (fun z => (o = 0 ∧ z = -1) ∨ (0 < o ∧ x = 0 ∧ z = (o : Int)) ∨ (0 < o ∧ x = 1 ∧ ∃ n : Nat, z = (n : Int) ∧ n ≤ 255 ∧ (n = 0 ∨ gP n ≠ 0) ∧ ∀ k, n < k → k ≤ 255 → gP k = 0) ∨ (0 < o ∧ x ≠ 0 ∧ x ≠ 1 ∧ z = -1))) 0 0 (fun _ => False) := by
  refine z_ofr (by decide) (Nat.le_of_ble_eq_true rfl) (Or.inl rfl) ?_
  intro p e s m args below meth c Q E jP jK jret ls jl
  obtain ⟨jx, jb, jrt, jml, jown, jts, jlk⟩ := E
  have jown : s.vm.findClass R_SC = some m.cls := jown
  have jl : lv_has ls 2 [(0, .ref g), (1, .int (iZ x))] := jl
  refine lv_aload_n jx jb d_SC_about_0 rfl (lv_at jl 0 rfl) ?_
  refine va_get (D := D) (ci := 3) (v := .ref qs) (C := R_SC) (T := F_SC) (N := 8) jx jb jts i_SC jown jK.1 jP 0 rfl rfl 3 (by decide) (jts _ fl_SC_26) (fun _ h9 => h9) rfl d_SC_about_1 ?_
  refine z_backr (va_runV (As := []) (rest := []) ⟨jx, jb, jml, jown, jts⟩ (c_Share_exists l D cI cB cZ qs pP pS pB pA pC pF pN o (by first | assumption | omega)) (zc_V 0 jts cd_Share_exists lk_SC_91 im_Share_exists se_Share_exists in_Share hd_Share_exists ⟨Nat.le_of_ble_eq_true rfl, Nat.le_of_ble_eq_true rfl⟩ rfl rfl) (z_preVR jK jP [1] rfl rfl rfl) rfl rfl jl.1 rfl (lv_room (Nat.le_of_ble_eq_true rfl)) d_SC_about_4 ⟨Nat.le_of_ble_eq_true rfl, Nat.le_of_ble_eq_true rfl⟩) (fun z4 hz4 => ?_)
  rcases hz4 with ⟨rfl, hq4⟩ | ⟨rfl, hq4⟩
  ·
    refine z_if_ne (tgt := 12) jx jb d_SC_about_7 (by decide) ⟨by decide, by decide⟩ (fun hc7 => ?_) (fun hc7 => ?_)
    ·
      refine lv_iload_n jx jb d_SC_about_12 rfl (lv_at jl 1 rfl) ?_
      refine z_if_ne (tgt := 24) jx jb d_SC_about_13 (by decide) ⟨by omega, by omega⟩ (fun hc13 => ?_) (fun hc13 => ?_)
      ·
        refine lv_iload_n jx jb d_SC_about_24 rfl (lv_at jl 1 rfl) ?_
        refine lv_iconst (v := iZ 1) jx jb d_SC_about_25 rfl ?_
        refine z_icmp_ne (tgt := 39) jx jb d_SC_about_26 (by decide) ⟨⟨by omega, by omega⟩, ⟨by decide, by decide⟩⟩ (fun hc26 => ?_) (fun hc26 => ?_)
        ·
          refine lv_iconst (v := iZ (-1)) jx jb d_SC_about_39 rfl ?_
          exact jret _ _ _ (Or.inl rfl) (by first | exact Or.inr (Or.inr (Or.inl ⟨by omega, by omega, n33, rfl, hn33, hm33, hq33⟩)) | exact Or.inr (Or.inr (Or.inr ⟨by omega, by omega, by omega, rfl⟩))) d_SC_about_40
        ·
          refine lv_aload_n jx jb d_SC_about_29 rfl (lv_at jl 0 rfl) ?_
          refine va_get (D := D) (ci := 3) (v := .ref qs) (C := R_SC) (T := F_SC) (N := 8) jx jb jts i_SC jown jK.1 jP 0 rfl rfl 3 (by decide) (jts _ fl_SC_26) (fun _ h9 => h9) rfl d_SC_about_30 ?_
          refine z_backr (va_runV (As := []) (rest := []) ⟨jx, jb, jml, jown, jts⟩ (c_Share_lastSymbol l D cI cB cZ qs pP pS pB pA pC pF pN o gP (by first | assumption | omega)) (zc_V 0 jts cd_Share_lastSymbol lk_SC_116 im_Share_lastSymbol se_Share_lastSymbol in_Share hd_Share_lastSymbol ⟨Nat.le_of_ble_eq_true rfl, Nat.le_of_ble_eq_true rfl⟩ rfl rfl) (z_preVR jK jP [1, 2] rfl rfl rfl) rfl rfl jl.1 rfl (lv_room (Nat.le_of_ble_eq_true rfl)) d_SC_about_33 ⟨Nat.le_of_ble_eq_true rfl, Nat.le_of_ble_eq_true rfl⟩) (fun z33 hz33 => ?_)
          obtain ⟨n33, rfl, hn33, hm33, hq33⟩ := hz33
          refine lv_goto (tgt := 40) jx jb d_SC_about_36 (by decide) ?_
          exact jret _ _ _ (Or.inl rfl) (by first | exact Or.inr (Or.inr (Or.inl ⟨by omega, by omega, n33, rfl, hn33, hm33, hq33⟩)) | exact Or.inr (Or.inr (Or.inr ⟨by omega, by omega, by omega, rfl⟩))) d_SC_about_40
      ·
        refine lv_aload_n jx jb d_SC_about_16 rfl (lv_at jl 0 rfl) ?_
        refine va_get (D := D) (ci := 3) (v := .ref qs) (C := R_SC) (T := F_SC) (N := 8) jx jb jts i_SC jown jK.1 jP 0 rfl rfl 3 (by decide) (jts _ fl_SC_26) (fun _ h9 => h9) rfl d_SC_about_17 ?_
        refine z_backe (va_runV (As := []) (rest := []) ⟨jx, jb, jml, jown, jts⟩ (c_Share_order l D cI cB cZ qs pP pS pB pA pC pF pN o) (zc_V 0 jts cd_Share_order lk_SC_113 im_Share_order se_Share_order in_Share hd_Share_order ⟨Nat.le_of_ble_eq_true rfl, Nat.le_of_ble_eq_true rfl⟩ rfl rfl) (z_preVR jK jP [1] rfl rfl rfl) rfl rfl jl.1 rfl (lv_room (Nat.le_of_ble_eq_true rfl)) d_SC_about_20 ⟨Nat.le_of_ble_eq_true rfl, Nat.le_of_ble_eq_true rfl⟩) ?_
        exact jret _ _ _ (Or.inl rfl) (Or.inr (Or.inl ⟨by omega, by omega, rfl⟩)) d_SC_about_23
    ·
      exact absurd hc7 (by decide)
  ·
    refine z_if_ne (tgt := 12) jx jb d_SC_about_7 (by decide) ⟨by decide, by decide⟩ (fun hc7 => ?_) (fun hc7 => ?_)
    ·
      exact absurd hc7 (by decide)
    ·
      refine lv_iconst (v := iZ (-1)) jx jb d_SC_about_10 rfl ?_
      exact jret _ _ _ (Or.inl rfl) (Or.inl ⟨by omega, rfl⟩) d_SC_about_11
abbrev rm_SC_points : Room := { frames := 2, cells := 0, slots := 0, locals := 41 }
set_option maxHeartbeats 4000000 in
set_option maxRecDepth 100000 in
theorem c_SC_points (l : Launch) (D : va_G) (cI cB cZ : ClassId) (g : Nat) (qc : Nat) (qp : Nat) (qi : Nat) (qs : Nat) (qr : Nat) (qo : Nat) (qx : Nat) (ps : Int) (pP : Nat) (pS : Nat) (pB : Nat) (pA : Nat) (pC : Nat) (pF : Nat) (pN : Nat) (o : Nat) (gP : Nat → Int) (x : Int) (ho : o ≤ 12) (hx1 : -2147483648 ≤ x ∧ x < 2147483648) : Met l y_SC_points (.code y_SC_points b_SC_points 2 (some .int) :: zT) rm_SC_points (zRc D classes (TY cI cB cZ) [(g, .inr (3, [.ref qc, .ref qp, .ref qi, .ref qs, .ref qr, .ref qo, .ref qx, .int (iZ ps)])), (qs, .inr (1, [.ref pP, .ref pS, .ref pB, .ref pA, .ref pC, .ref pF, .ref pN, .int (iZ (o : Int))])), (pP, .inl (cI, 256, .inl (zA gP)))] [.ref g, .int (iZ x)]) (zSi (fun z => z = if 0 < o ∧ 0 ≤ x ∧ x < 256 then gP x.toNat else -2)) 0 0 (fun _ => False) := by
  refine z_ofr (by decide) (Nat.le_of_ble_eq_true rfl) (Or.inl rfl) ?_
  intro p e s m args below meth c Q E jP jK jret ls jl
  obtain ⟨jx, jb, jrt, jml, jown, jts, jlk⟩ := E
  have jown : s.vm.findClass R_SC = some m.cls := jown
  have jl : lv_has ls 2 [(0, .ref g), (1, .int (iZ x))] := jl
  refine lv_aload_n jx jb d_SC_points_0 rfl (lv_at jl 0 rfl) ?_
  refine va_get (D := D) (ci := 3) (v := .ref qs) (C := R_SC) (T := F_SC) (N := 8) jx jb jts i_SC jown jK.1 jP 0 rfl rfl 3 (by decide) (jts _ fl_SC_26) (fun _ h9 => h9) rfl d_SC_points_1 ?_
  refine z_backr (va_runV (As := []) (rest := []) ⟨jx, jb, jml, jown, jts⟩ (c_Share_exists l D cI cB cZ qs pP pS pB pA pC pF pN o (by first | assumption | omega)) (zc_V 0 jts cd_Share_exists lk_SC_91 im_Share_exists se_Share_exists in_Share hd_Share_exists ⟨Nat.le_of_ble_eq_true rfl, Nat.le_of_ble_eq_true rfl⟩ rfl rfl) (z_preVR jK jP [1] rfl rfl rfl) rfl rfl jl.1 rfl (lv_room (Nat.le_of_ble_eq_true rfl)) d_SC_points_4 ⟨Nat.le_of_ble_eq_true rfl, Nat.le_of_ble_eq_true rfl⟩) (fun z4 hz4 => ?_)
  rcases hz4 with ⟨rfl, hq4⟩ | ⟨rfl, hq4⟩
  ·
    refine z_if_eq (tgt := 28) jx jb d_SC_points_7 (by decide) ⟨by decide, by decide⟩ (fun hc7 => ?_) (fun hc7 => ?_)
    ·
      exact absurd hc7 (by decide)
    ·
      refine lv_iload_n jx jb d_SC_points_10 rfl (lv_at jl 1 rfl) ?_
      refine z_backr (va_runS (As := [.int (iZ x)]) (rest := []) ⟨jx, jb, jml, jown, jts⟩ (c_isSymbol l D cI cB cZ x (by first | assumption | omega)) (zc_S 1 jts cd_SC_isSymbol lk_SC_68 st_SC_isSymbol in_SC hd_SC_isSymbol ⟨Nat.le_of_ble_eq_true rfl, Nat.le_of_ble_eq_true rfl⟩ rfl rfl) (z_preSR jK jP [] rfl) rfl rfl jl.1 rfl (lv_room (Nat.le_of_ble_eq_true rfl)) d_SC_points_11 ⟨Nat.le_of_ble_eq_true rfl, Nat.le_of_ble_eq_true rfl⟩) (fun z11 hz11 => ?_)
      rcases hz11 with ⟨rfl, hq11⟩ | ⟨rfl, hq11⟩
      ·
        refine z_if_eq (tgt := 28) jx jb d_SC_points_14 (by decide) ⟨by decide, by decide⟩ (fun hc14 => ?_) (fun hc14 => ?_)
        ·
          exact absurd hc14 (by decide)
        ·
          refine lv_aload_n jx jb d_SC_points_17 rfl (lv_at jl 0 rfl) ?_
          refine va_get (D := D) (ci := 3) (v := .ref qs) (C := R_SC) (T := F_SC) (N := 8) jx jb jts i_SC jown jK.1 jP 0 rfl rfl 3 (by decide) (jts _ fl_SC_26) (fun _ h9 => h9) rfl d_SC_points_18 ?_
          refine lv_iload_n jx jb d_SC_points_21 rfl (lv_at jl 1 rfl) ?_
          refine z_backe (va_runV (As := [.int (iZ x)]) (rest := []) ⟨jx, jb, jml, jown, jts⟩ (c_Share_pointsOf l D cI cB cZ qs pP pS pB pA pC pF pN o gP x (by first | assumption | omega)) (zc_V 1 jts cd_Share_pointsOf lk_SC_119 im_Share_pointsOf se_Share_pointsOf in_Share hd_Share_pointsOf ⟨Nat.le_of_ble_eq_true rfl, Nat.le_of_ble_eq_true rfl⟩ rfl rfl) (z_preVR jK jP [1, 2] rfl rfl rfl) rfl rfl jl.1 rfl (lv_room (Nat.le_of_ble_eq_true rfl)) d_SC_points_22 ⟨Nat.le_of_ble_eq_true rfl, Nat.le_of_ble_eq_true rfl⟩) ?_
          refine lv_goto (tgt := 30) jx jb d_SC_points_25 (by decide) ?_
          exact jret _ _ _ (Or.inl rfl) (by first | exact (if_pos (by omega)).symm | exact (if_neg (by omega)).symm) d_SC_points_30
      ·
        refine z_if_eq (tgt := 28) jx jb d_SC_points_14 (by decide) ⟨by decide, by decide⟩ (fun hc14 => ?_) (fun hc14 => ?_)
        ·
          refine lv_bipush (v := iZ (-2)) jx jb d_SC_points_28 (by decide) ?_
          exact jret _ _ _ (Or.inl rfl) (by first | exact (if_pos (by omega)).symm | exact (if_neg (by omega)).symm) d_SC_points_30
        ·
          exact absurd hc14 (by decide)
  ·
    refine z_if_eq (tgt := 28) jx jb d_SC_points_7 (by decide) ⟨by decide, by decide⟩ (fun hc7 => ?_) (fun hc7 => ?_)
    ·
      refine lv_bipush (v := iZ (-2)) jx jb d_SC_points_28 (by decide) ?_
      exact jret _ _ _ (Or.inl rfl) (by first | exact (if_pos (by omega)).symm | exact (if_neg (by omega)).symm) d_SC_points_30
    ·
      exact absurd hc7 (by decide)
abbrev rm_SC_makeSpareOut : Room := { frames := 0, cells := 0, slots := 0, locals := 0 }
set_option maxHeartbeats 4000000 in
set_option maxRecDepth 100000 in
theorem c_SC_makeSpareOut (l : Launch) (D : va_G) (cI cB cZ : ClassId) (sz : Nat) (g : Nat) (qc : Nat) (qp : Nat) (qi : Nat) (qs : Nat) (qr : Nat) (qo : Nat) (qx : Nat) (ps : Int) : Met l y_SC_makeSpareOut (.code y_SC_makeSpareOut b_SC_makeSpareOut 2 none :: zT) rm_SC_makeSpareOut (zPc D classes (TY cI cB cZ) [(g, .inr (3, [.ref qc, .ref qp, .ref qi, .ref qs, .ref qr, .ref qo, .ref qx, .int (iZ ps)]))] sz [.ref g]) (zFv (S := Unit) D classes (fun _u => True) (fun _u => [(g, .inr (3, [.ref qc, .ref qp, .ref qi, .ref qs, .ref qr, .ref qx, .ref qo, .int (iZ ps)]))]) (va_A [(g, .inr (3, [.ref qc, .ref qp, .ref qi, .ref qs, .ref qr, .ref qo, .ref qx, .int (iZ ps)]))] sz)) 0 0 (va_A [(g, .inr (3, [.ref qc, .ref qp, .ref qi, .ref qs, .ref qr, .ref qo, .ref qx, .int (iZ ps)]))] sz) := by
  refine z_ofv (by decide) (Nat.le_of_ble_eq_true rfl) rfl ?_
  intro p e s m args below meth c A Q E jmn jA jK jret H locs jP jD jS ls jl
  obtain ⟨jx, jb, jrt, jml, jown, jts, jlk⟩ := E
  have jown : s.vm.findClass R_SC = some m.cls := jown
  have jl : lv_has ls 2 [(0, .ref g)] := jl
  refine lv_aload_n jx jb d_SC_makeSpareOut_0 rfl (lv_at jl 0 rfl) ?_
  refine va_get (D := D) (ci := 3) (v := .ref qx) (C := R_SC) (T := F_SC) (N := 8) jx jb jts i_SC jown jK.1 jP 0 rfl rfl 6 (by decide) (jts _ fl_SC_40) (fun _ h9 => h9) rfl d_SC_makeSpareOut_1 ?_
  refine lv_astore_n (lv' := [(1, .ref qx), (0, .ref g)]) jx jb d_SC_makeSpareOut_4 rfl jl (by decide) rfl (fun ls jl => ?_)
  refine lv_aload_n jx jb d_SC_makeSpareOut_5 rfl (lv_at jl 1 rfl) ?_
  refine lv_aload_n jx jb d_SC_makeSpareOut_6 rfl (lv_at jl 1 rfl) ?_
  refine va_get (D := D) (ci := 3) (v := .ref qo) (C := R_SC) (T := F_SC) (N := 8) jx jb jts i_SC jown jK.1 jP 0 rfl rfl 5 (by decide) (jts _ fl_SC_37) (fun _ h9 => h9) rfl d_SC_makeSpareOut_7 ?_
  refine va_put (D := D) (ci := 3) (v := .ref qo) (ty := (.object "StateCoder$Row")) (C := R_SC) (T := F_SC) (N := 8) jx jb jts i_SC t_SC t_SC_ok n_SC jown jK.1 jP jD jS 0 rfl rfl 6 (by decide) (jts _ fl_SC_40) (fun _ h9 => h9) rfl (by decide +kernel) rfl rfl (Nat.le_of_ble_eq_true rfl) d_SC_makeSpareOut_10 (fun H locs jP jD jS => ?_)
  have jP : va_P D classes [(g, .inr (3, [.ref qc, .ref qp, .ref qi, .ref qs, .ref qr, .ref qo, .ref qo, .int (iZ ps)]))] H := jP
  have jD : va_D A [(g, .inr (3, [.ref qc, .ref qp, .ref qi, .ref qs, .ref qr, .ref qo, .ref qo, .int (iZ ps)]))] := jD
  refine lv_aload_n jx jb d_SC_makeSpareOut_13 rfl (lv_at jl 1 rfl) ?_
  refine lv_aload_n jx jb d_SC_makeSpareOut_14 rfl (lv_at jl 0 rfl) ?_
  refine va_put (D := D) (ci := 3) (v := .ref qx) (ty := (.object "StateCoder$Row")) (C := R_SC) (T := F_SC) (N := 8) jx jb jts i_SC t_SC t_SC_ok n_SC jown jK.1 jP jD jS 0 rfl rfl 5 (by decide) (jts _ fl_SC_37) (fun _ h9 => h9) rfl (by decide +kernel) rfl rfl (Nat.le_of_ble_eq_true rfl) d_SC_makeSpareOut_15 (fun H locs jP jD jS => ?_)
  have jP : va_P D classes [(g, .inr (3, [.ref qc, .ref qp, .ref qi, .ref qs, .ref qr, .ref qx, .ref qo, .int (iZ ps)]))] H := jP
  have jD : va_D A [(g, .inr (3, [.ref qc, .ref qp, .ref qi, .ref qs, .ref qr, .ref qx, .ref qo, .int (iZ ps)]))] := jD
  exact jret _ _ () _ _ (trivial) (jP.sub [0] rfl) (jD.sub [0] (by decide) rfl) jS d_SC_makeSpareOut_18
abbrev rm_SC_write : Room := { frames := 1, cells := 0, slots := 0, locals := 21 }
set_option maxHeartbeats 4000000 in
set_option maxRecDepth 100000 in
theorem c_SC_write (l : Launch) (D : va_G) (cI cB cZ : ClassId) (sz : Nat) (g : Nat) (qc : Nat) (qp : Nat) (qi : Nat) (qs : Nat) (qr : Nat) (qo : Nat) (qx : Nat) (ps : Int) (bi : Nat) (Li : Int) (hdi : Int) (hni : Int) (ovi : Int) (tsi : Int) (tbi : Int) (fi : Nat → Int) (x : Int64) (n : Int) (hLi : 0 ≤ Li ∧ Li ≤ 6000) (hn1 : -2147483648 ≤ n ∧ n < 2147483648) (hfi : ∀ k, -128 ≤ fi k ∧ fi k < 128) : Met l y_SC_write (.code y_SC_write b_SC_write 5 (some .boolean) :: zT) rm_SC_write (zPc D classes (TY cI cB cZ) [(g, .inr (3, [.ref qc, .ref qp, .ref qi, .ref qs, .ref qr, .ref qo, .ref qx, .int (iZ ps)])), (qi, .inr (0, [.ref bi, .int (iZ Li), .int (iZ hdi), .int (iZ hni), .int (iZ ovi), .int (iZ tsi), .int (iZ tbi)])), (bi, .inl (cB, 6000, .inl (zA fi)))] sz [.ref g, .long x, .int (iZ n)]) (zFi (S := Int × Int × (Nat → Int)) D classes (fun z u => (z = 1 ∧ (1 ≤ n ∧ n ≤ 8 ∧ Li + n ≤ 6000) ∧ u.1 = Li + n ∧ u.2.1 = ovi ∧ (∀ k, -128 ≤ u.2.2 k ∧ u.2.2 k < 128) ∧ (∀ k : Nat, (k : Int) < Li → u.2.2 k = fi k) ∧ ∀ j : Nat, (j : Int) < n → u.2.2 (Li.toNat + j) % 256 = wbyte x (n - 1 - j).toNat) ∨ (z = 0 ∧ ¬ (1 ≤ n ∧ n ≤ 8 ∧ Li + n ≤ 6000) ∧ u.1 = Li ∧ u.2.1 = ovi ∧ u.2.2 = fi)) (fun u => [(g, .inr (3, [.ref qc, .ref qp, .ref qi, .ref qs, .ref qr, .ref qo, .ref qx, .int (iZ ps)])), (qi, .inr (0, [.ref bi, .int (iZ u.1), .int (iZ hdi), .int (iZ hni), .int (iZ u.2.1), .int (iZ tsi), .int (iZ tbi)])), (bi, .inl (cB, 6000, .inl (zA u.2.2)))]) (va_A [(g, .inr (3, [.ref qc, .ref qp, .ref qi, .ref qs, .ref qr, .ref qo, .ref qx, .int (iZ ps)])), (qi, .inr (0, [.ref bi, .int (iZ Li), .int (iZ hdi), .int (iZ hni), .int (iZ ovi), .int (iZ tsi), .int (iZ tbi)])), (bi, .inl (cB, 6000, .inl (zA fi)))] sz)) 0 0 (va_A [(g, .inr (3, [.ref qc, .ref qp, .ref qi, .ref qs, .ref qr, .ref qo, .ref qx, .int (iZ ps)])), (qi, .inr (0, [.ref bi, .int (iZ Li), .int (iZ hdi), .int (iZ hni), .int (iZ ovi), .int (iZ tsi), .int (iZ tbi)])), (bi, .inl (cB, 6000, .inl (zA fi)))] sz) := by
  refine z_ofi (by decide) (Nat.le_of_ble_eq_true rfl) (Or.inr rfl) ?_
  intro p e s m args below meth c A Q E jA jK jret H locs jP jD jS ls jl
  obtain ⟨jx, jb, jrt, jml, jown, jts, jlk⟩ := E
  have jown : s.vm.findClass R_SC = some m.cls := jown
  have jl : lv_has ls 5 [(0, .ref g), (1, .long x), (3, .int (iZ n))] := jl
  refine lv_iload_n jx jb d_SC_write_0 rfl (lv_at jl 2 rfl) ?_
  refine lv_iconst (v := iZ 1) jx jb d_SC_write_1 rfl ?_
  refine z_icmp_lt (tgt := 26) jx jb d_SC_write_2 (by decide) ⟨⟨by omega, by omega⟩, ⟨by decide, by decide⟩⟩ (fun hc2 => ?_) (fun hc2 => ?_)
  ·
    refine lv_iconst (v := iZ 0) jx jb d_SC_write_26 rfl ?_
    exact jret _ _ _ (Li, ovi, fi) _ _ (Or.inr (Or.inl rfl)) (Or.inr ⟨rfl, by omega, rfl, rfl, rfl⟩) (jP.sub [0, 1, 2] rfl) (jD.sub [0, 1, 2] (by decide) rfl) jS d_SC_write_27
  ·
    refine lv_iload_n jx jb d_SC_write_5 rfl (lv_at jl 2 rfl) ?_
    refine lv_bipush (v := iZ 8) jx jb d_SC_write_6 (by decide) ?_
    refine z_icmp_gt (tgt := 26) jx jb d_SC_write_8 (by decide) ⟨⟨by omega, by omega⟩, ⟨by decide, by decide⟩⟩ (fun hc8 => ?_) (fun hc8 => ?_)
    ·
      refine lv_iconst (v := iZ 0) jx jb d_SC_write_26 rfl ?_
      exact jret _ _ _ (Li, ovi, fi) _ _ (Or.inr (Or.inl rfl)) (Or.inr ⟨rfl, by omega, rfl, rfl, rfl⟩) (jP.sub [0, 1, 2] rfl) (jD.sub [0, 1, 2] (by decide) rfl) jS d_SC_write_27
    ·
      refine lv_aload_n jx jb d_SC_write_11 rfl (lv_at jl 0 rfl) ?_
      refine va_get (D := D) (ci := 3) (v := .ref qi) (C := R_SC) (T := F_SC) (N := 8) jx jb jts i_SC jown jK.1 jP 0 rfl rfl 2 (by decide) (jts _ fl_SC_19) (fun _ h9 => h9) rfl d_SC_write_12 ?_
      refine z_backe (va_runV (As := []) (rest := []) ⟨jx, jb, jml, jown, jts⟩ (c_Row_length l D cI cB cZ qi bi Li hdi hni ovi tsi tbi) (zc_V 0 jts cd_Row_length lk_SC_43 im_Row_length se_Row_length in_Row hd_Row_length ⟨Nat.le_of_ble_eq_true rfl, Nat.le_of_ble_eq_true rfl⟩ rfl rfl) (z_preVR jK jP [1] rfl rfl rfl) rfl rfl jl.1 rfl (lv_room (Nat.le_of_ble_eq_true rfl)) d_SC_write_15 ⟨Nat.le_of_ble_eq_true rfl, Nat.le_of_ble_eq_true rfl⟩) ?_
      refine lv_iload_n jx jb d_SC_write_18 rfl (lv_at jl 2 rfl) ?_
      refine z_iadd jx jb d_SC_write_19 ?_
      refine lv_sipush (v := iZ 6000) jx jb d_SC_write_20 (by decide) ?_
      refine z_icmp_le (tgt := 28) jx jb d_SC_write_23 (by decide) ⟨⟨by omega, by omega⟩, ⟨by decide, by decide⟩⟩ (fun hc23 => ?_) (fun hc23 => ?_)
      ·
        refine lv_iload_n jx jb d_SC_write_28 rfl (lv_at jl 2 rfl) ?_
        refine lv_iconst (v := iZ 1) jx jb d_SC_write_29 rfl ?_
        refine z_isub jx jb d_SC_write_30 ?_
        refine z_top ((n.toNat : Int) - 1) (by omega) ?_
        refine lv_istore (lv' := [(4, .int (iZ ((n.toNat : Int) - 1))), (0, .ref g), (1, .long x), (3, .int (iZ n))]) jx jb d_SC_write_31 jl (by decide) rfl (fun ls jl => ?_)
        have hloop33 : ∀ (nF : Nat) (d : Nat) (L2 : Int) (ov2 : Int) (f2 : Nat → Int), d < nF → ((d : Int) ≤ n) → (wrI fi f2 Li L2 n d x ∧ ov2 = ovi) → ∀ (H : Heap) (locs : List Loc), va_P D classes [(g, .inr (3, [.ref qc, .ref qp, .ref qi, .ref qs, .ref qr, .ref qo, .ref qx, .int (iZ ps)])), (qi, .inr (0, [.ref bi, .int (iZ L2), .int (iZ hdi), .int (iZ hni), .int (iZ ov2), .int (iZ tsi), .int (iZ tbi)])), (bi, .inl (cB, 6000, .inl (zA f2)))] H → va_D A [(g, .inr (3, [.ref qc, .ref qp, .ref qi, .ref qs, .ref qr, .ref qo, .ref qx, .int (iZ ps)])), (qi, .inr (0, [.ref bi, .int (iZ L2), .int (iZ hdi), .int (iZ hni), .int (iZ ov2), .int (iZ tsi), .int (iZ tbi)])), (bi, .inl (cB, 6000, .inl (zA f2)))] → va_S A s.heap H locs → ∀ ls : Array Slot, lv_has ls 5 [(0, .ref g), (1, .long x), (3, .int (iZ n)), (4, .int (iZ ((d : Int) - 1)))] → W p l e rm_SC_write s m args below meth c H locs 0 0 Q (F0 m 33 ls []) := by
          intro nF
          induction nF with
          | zero => intro d L2 ov2 f2 hm; exact absurd hm (Nat.not_lt_zero _)
          | succ nF ih33 =>
            intro d L2 ov2 f2 hm hd hW H locs jP jD jS ls jl
            refine lv_iload jx jb d_SC_write_33 (lv_at jl 3 rfl) ?_
            have hd0 := hW.1.1
            refine z_if_lt (tgt := 63) jx jb d_SC_write_35 (by decide) ⟨by omega, by omega⟩ (fun hc35 => ?_) (fun hc35 => ?_)
            ·
              refine lv_iconst (v := iZ 1) jx jb d_SC_write_63 rfl ?_
              exact jret _ _ _ (L2, ov2, f2) _ _ (Or.inr (Or.inr rfl)) (Or.inl ⟨rfl, by omega, wrI_end hW.1 (by omega) hW.2⟩) (jP.sub [0, 1, 2] rfl) (jD.sub [0, 1, 2] (by decide) rfl) jS d_SC_write_64
            ·
              refine lv_aload_n jx jb d_SC_write_38 rfl (lv_at jl 0 rfl) ?_
              refine va_get (D := D) (ci := 3) (v := .ref qi) (C := R_SC) (T := F_SC) (N := 8) jx jb jts i_SC jown jK.1 jP 0 rfl rfl 2 (by decide) (jts _ fl_SC_19) (fun _ h9 => h9) rfl d_SC_write_39 ?_
              refine lv_lload_n jx jb d_SC_write_42 rfl (lv_at jl 1 rfl) ?_
              refine lv_bipush (v := iZ 8) jx jb d_SC_write_43 (by decide) ?_
              refine lv_iload jx jb d_SC_write_45 (lv_at jl 3 rfl) ?_
              refine z_imul jx jb d_SC_write_47 ?_
              refine z_lshr jx jb d_SC_write_48 (8 * (d - 1)) (by omega) (fun v48 hv48 => ?_)
              refine z_l2i jx jb d_SC_write_49 ?_
              refine lv_sipush (v := iZ 255) jx jb d_SC_write_50 (by decide) ?_
              refine z_iand jx jb d_SC_write_53 8 256 (rfl) (rfl) (by decide) ?_
              refine z_top (wbyte x (d - 1)) (by rw [hv48]; rfl) ?_
              refine z_backv (wr := [(g, .inr (3, [.ref qc, .ref qp, .ref qi, .ref qs, .ref qr, .ref qo, .ref qx, .int (iZ ps)]))]) jP jD jS jA [1, 2] [0] rfl rfl (by decide) (by decide) (va_runV (As := [.int (iZ (wbyte x (d - 1)))]) (rest := []) ⟨jx, jb, jml, jown, jts⟩ (c_Row_add l D cI cB cZ H.size qi bi L2 hdi hni ov2 tsi tbi f2 (wbyte x (d - 1)) (by omega)) (zc_V 1 jts cd_Row_add lk_SC_47 im_Row_add se_Row_add in_Row hd_Row_add ⟨Nat.le_of_ble_eq_true rfl, Nat.le_of_ble_eq_true rfl⟩ rfl rfl) (z_preV jK jP jD [1, 2] (by decide) rfl rfl rfl rfl) rfl rfl jl.1 rfl (lv_room (Nat.le_of_ble_eq_true rfl)) d_SC_write_54 ⟨Nat.le_of_ble_eq_true rfl, Nat.le_of_ble_eq_true rfl⟩) (fun u54 H locs hu54 jP jD jS => ?_)
              obtain ⟨L1_54, ov1_54, f1_54⟩ := u54
              have jP : va_P D classes [(g, .inr (3, [.ref qc, .ref qp, .ref qi, .ref qs, .ref qr, .ref qo, .ref qx, .int (iZ ps)])), (qi, .inr (0, [.ref bi, .int (iZ L1_54), .int (iZ hdi), .int (iZ hni), .int (iZ ov1_54), .int (iZ tsi), .int (iZ tbi)])), (bi, .inl (cB, 6000, .inl (zA f1_54)))] H := jP.sub [0, 1, 2] rfl
              have jD : va_D A [(g, .inr (3, [.ref qc, .ref qp, .ref qi, .ref qs, .ref qr, .ref qo, .ref qx, .int (iZ ps)])), (qi, .inr (0, [.ref bi, .int (iZ L1_54), .int (iZ hdi), .int (iZ hni), .int (iZ ov1_54), .int (iZ tsi), .int (iZ tbi)])), (bi, .inl (cB, 6000, .inl (zA f1_54)))] := jD.sub [0, 1, 2] (by decide) rfl
              refine lv_iinc (v := iZ (((d - 1 : Nat) : Int) - 1)) (lv' := [(4, .int (iZ (((d - 1 : Nat) : Int) - 1))), (0, .ref g), (1, .long x), (3, .int (iZ n))]) jx jb d_SC_write_57 jl (k := 3) rfl (by rw [show (((d - 1 : Nat) : Int) - 1) = ((d : Int) - 1) + (-1) from by omega]; exact iZ_add _ _) (by decide) rfl (fun ls jl => ?_)
              refine lv_goto (tgt := 33) jx jb d_SC_write_60 (by decide) ?_
              exact ih33 (d - 1) L1_54 ov1_54 f1_54 (by omega) (by first | assumption | omega) (⟨wrI_s hW.1 (by omega) (by omega) hu54, wrI_ov hW.1 hW.2 (by omega) hu54⟩) _ _ (jP.sub [0, 1, 2] rfl) (jD.sub [0, 1, 2] (by decide) rfl) jS _ (lv_sub jl [1, 2, 3, 0] rfl)
        exact hloop33 (n.toNat + 1) n.toNat Li ovi fi (Nat.lt_succ_self _) (by first | assumption | omega) (⟨wrI_0 (by omega) (by omega) (by omega) hfi, rfl⟩) _ _ (jP.sub [0, 1, 2] rfl) (jD.sub [0, 1, 2] (by decide) rfl) jS _ (lv_sub jl [1, 2, 3, 0] rfl)
      ·
        refine lv_iconst (v := iZ 0) jx jb d_SC_write_26 rfl ?_
        exact jret _ _ _ (Li, ovi, fi) _ _ (Or.inr (Or.inl rfl)) (Or.inr ⟨rfl, by omega, rfl, rfl, rfl⟩) (jP.sub [0, 1, 2] rfl) (jD.sub [0, 1, 2] (by decide) rfl) jS d_SC_write_27
abbrev rm_SC_cell : Room := { frames := 3, cells := 0, slots := 0, locals := 62 }
set_option maxHeartbeats 4000000 in
set_option maxRecDepth 100000 in
theorem c_SC_cell (l : Launch) (D : va_G) (cI cB cZ : ClassId) (g : Nat) (qc : Nat) (qp : Nat) (qi : Nat) (qs : Nat) (qr : Nat) (qo : Nat) (qx : Nat) (ps : Int) (pP : Nat) (pS : Nat) (pB : Nat) (pA : Nat) (pC : Nat) (pF : Nat) (pN : Nat) (o : Nat) (gS : Nat → Int) (gB : Nat → Int) (gA : Nat → Int) (k : Int) (x : Int) (ho : o ≤ 12) (hk : -2147483648 ≤ k ∧ k < 2147483648) (hx1 : -2147483648 ≤ x ∧ x < 2147483648) : Met l y_SC_cell (.code y_SC_cell b_SC_cell 3 (some .int) :: zT) rm_SC_cell (zRc D classes (TY cI cB cZ) [(g, .inr (3, [.ref qc, .ref qp, .ref qi, .ref qs, .ref qr, .ref qo, .ref qx, .int (iZ ps)])), (qs, .inr (1, [.ref pP, .ref pS, .ref pB, .ref pA, .ref pC, .ref pF, .ref pN, .int (iZ (o : Int))])), (pS, .inl (cI, 4096, .inl (zA gS))), (pB, .inl (cI, 4096, .inl (zA gB))), (pA, .inl (cI, 4096, .inl (zA gA)))] [.ref g, .int (iZ k), .int (iZ x)]) (zSi (fun z => z = cellAns o gS gB gA k x)) 0 0 (fun _ => False) := by
  refine z_ofr (by decide) (Nat.le_of_ble_eq_true rfl) (Or.inl rfl) ?_
  intro p e s m args below meth c Q E jP jK jret ls jl
  obtain ⟨jx, jb, jrt, jml, jown, jts, jlk⟩ := E
  have jown : s.vm.findClass R_SC = some m.cls := jown
  have hp12 := p2_le ho
  have jl : lv_has ls 3 [(0, .ref g), (1, .int (iZ k)), (2, .int (iZ x))] := jl
  refine lv_aload_n jx jb d_SC_cell_0 rfl (lv_at jl 0 rfl) ?_
  refine va_get (D := D) (ci := 3) (v := .ref qs) (C := R_SC) (T := F_SC) (N := 8) jx jb jts i_SC jown jK.1 jP 0 rfl rfl 3 (by decide) (jts _ fl_SC_26) (fun _ h9 => h9) rfl d_SC_cell_1 ?_
  refine lv_iload_n jx jb d_SC_cell_4 rfl (lv_at jl 1 rfl) ?_
  refine z_backr (va_runV (As := [.int (iZ k)]) (rest := []) ⟨jx, jb, jml, jown, jts⟩ (c_Share_hasCell l D cI cB cZ qs pP pS pB pA pC pF pN o k (by first | assumption | omega) (by first | assumption | omega)) (zc_V 1 jts cd_Share_hasCell lk_SC_122 im_Share_hasCell se_Share_hasCell in_Share hd_Share_hasCell ⟨Nat.le_of_ble_eq_true rfl, Nat.le_of_ble_eq_true rfl⟩ rfl rfl) (z_preVR jK jP [1] rfl rfl rfl) rfl rfl jl.1 rfl (lv_room (Nat.le_of_ble_eq_true rfl)) d_SC_cell_5 ⟨Nat.le_of_ble_eq_true rfl, Nat.le_of_ble_eq_true rfl⟩) (fun z5 hz5 => ?_)
  rcases hz5 with ⟨rfl, hq5⟩ | ⟨rfl, hq5⟩
  ·
    refine z_if_ne (tgt := 13) jx jb d_SC_cell_8 (by decide) ⟨by decide, by decide⟩ (fun hc8 => ?_) (fun hc8 => ?_)
    ·
      refine lv_iload_n jx jb d_SC_cell_13 rfl (lv_at jl 2 rfl) ?_
      rcases (by omega : x = 0 ∨ x = 1 ∨ x = 2 ∨ (x < 0 ∨ 2 < x)) with hc14 | hc14 | hc14 | hc14
      ·
        refine z_tableIn (tgt := 40) jx jb d_SC_cell_14 0 hc14 ⟨by decide, by decide⟩ (by decide) (by decide) rfl (by decide) ?_
        refine lv_aload_n jx jb d_SC_cell_40 rfl (lv_at jl 0 rfl) ?_
        refine va_get (D := D) (ci := 3) (v := .ref qs) (C := R_SC) (T := F_SC) (N := 8) jx jb jts i_SC jown jK.1 jP 0 rfl rfl 3 (by decide) (jts _ fl_SC_26) (fun _ h9 => h9) rfl d_SC_cell_41 ?_
        refine lv_iload_n jx jb d_SC_cell_44 rfl (lv_at jl 1 rfl) ?_
        refine z_backe (va_runV (As := [.int (iZ k)]) (rest := []) ⟨jx, jb, jml, jown, jts⟩ (c_Share_symbolOf l D cI cB cZ qs pP pS pB pA pC pF pN o gS k (by first | assumption | omega) (by first | assumption | omega) (by first | assumption | omega)) (zc_V 1 jts cd_Share_symbolOf lk_SC_125 im_Share_symbolOf se_Share_symbolOf in_Share hd_Share_symbolOf ⟨Nat.le_of_ble_eq_true rfl, Nat.le_of_ble_eq_true rfl⟩ rfl rfl) (z_preVR jK jP [1, 2] rfl rfl rfl) rfl rfl jl.1 rfl (lv_room (Nat.le_of_ble_eq_true rfl)) d_SC_cell_45 ⟨Nat.le_of_ble_eq_true rfl, Nat.le_of_ble_eq_true rfl⟩) ?_
        exact jret _ _ _ (Or.inl rfl) ((cellAns_0 (by omega) (by omega)).symm) d_SC_cell_48
      ·
        refine z_tableIn (tgt := 49) jx jb d_SC_cell_14 1 hc14 ⟨by decide, by decide⟩ (by decide) (by decide) rfl (by decide) ?_
        refine lv_aload_n jx jb d_SC_cell_49 rfl (lv_at jl 0 rfl) ?_
        refine va_get (D := D) (ci := 3) (v := .ref qs) (C := R_SC) (T := F_SC) (N := 8) jx jb jts i_SC jown jK.1 jP 0 rfl rfl 3 (by decide) (jts _ fl_SC_26) (fun _ h9 => h9) rfl d_SC_cell_50 ?_
        refine lv_iload_n jx jb d_SC_cell_53 rfl (lv_at jl 1 rfl) ?_
        refine z_backe (va_runV (As := [.int (iZ k)]) (rest := []) ⟨jx, jb, jml, jown, jts⟩ (c_Share_bitsOf l D cI cB cZ qs pP pS pB pA pC pF pN o gB k (by first | assumption | omega) (by first | assumption | omega) (by first | assumption | omega)) (zc_V 1 jts cd_Share_bitsOf lk_SC_128 im_Share_bitsOf se_Share_bitsOf in_Share hd_Share_bitsOf ⟨Nat.le_of_ble_eq_true rfl, Nat.le_of_ble_eq_true rfl⟩ rfl rfl) (z_preVR jK jP [1, 3] rfl rfl rfl) rfl rfl jl.1 rfl (lv_room (Nat.le_of_ble_eq_true rfl)) d_SC_cell_54 ⟨Nat.le_of_ble_eq_true rfl, Nat.le_of_ble_eq_true rfl⟩) ?_
        exact jret _ _ _ (Or.inl rfl) ((cellAns_1 (by omega) (by omega)).symm) d_SC_cell_57
      ·
        refine z_tableIn (tgt := 58) jx jb d_SC_cell_14 2 hc14 ⟨by decide, by decide⟩ (by decide) (by decide) rfl (by decide) ?_
        refine lv_aload_n jx jb d_SC_cell_58 rfl (lv_at jl 0 rfl) ?_
        refine va_get (D := D) (ci := 3) (v := .ref qs) (C := R_SC) (T := F_SC) (N := 8) jx jb jts i_SC jown jK.1 jP 0 rfl rfl 3 (by decide) (jts _ fl_SC_26) (fun _ h9 => h9) rfl d_SC_cell_59 ?_
        refine lv_iload_n jx jb d_SC_cell_62 rfl (lv_at jl 1 rfl) ?_
        refine z_backe (va_runV (As := [.int (iZ k)]) (rest := []) ⟨jx, jb, jml, jown, jts⟩ (c_Share_baseOf l D cI cB cZ qs pP pS pB pA pC pF pN o gA k (by first | assumption | omega) (by first | assumption | omega) (by first | assumption | omega)) (zc_V 1 jts cd_Share_baseOf lk_SC_131 im_Share_baseOf se_Share_baseOf in_Share hd_Share_baseOf ⟨Nat.le_of_ble_eq_true rfl, Nat.le_of_ble_eq_true rfl⟩ rfl rfl) (z_preVR jK jP [1, 4] rfl rfl rfl) rfl rfl jl.1 rfl (lv_room (Nat.le_of_ble_eq_true rfl)) d_SC_cell_63 ⟨Nat.le_of_ble_eq_true rfl, Nat.le_of_ble_eq_true rfl⟩) ?_
        exact jret _ _ _ (Or.inl rfl) ((cellAns_2 (by omega) (by omega)).symm) d_SC_cell_66
      ·
        refine z_tableOut (tgt := 67) jx jb d_SC_cell_14 ⟨by omega, by omega⟩ hc14 (by decide) ?_
        refine lv_iconst (v := iZ (-1)) jx jb d_SC_cell_67 rfl ?_
        exact jret _ _ _ (Or.inl rfl) ((cellAns_x (by omega)).symm) d_SC_cell_68
    ·
      exact absurd hc8 (by decide)
  ·
    refine z_if_ne (tgt := 13) jx jb d_SC_cell_8 (by decide) ⟨by decide, by decide⟩ (fun hc8 => ?_) (fun hc8 => ?_)
    ·
      exact absurd hc8 (by decide)
    ·
      refine lv_iconst (v := iZ (-1)) jx jb d_SC_cell_11 rfl ?_
      exact jret _ _ _ (Or.inl rfl) ((cellAns_no (by omega)).symm) d_SC_cell_12
