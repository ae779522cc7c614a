theorem fl_Mod_42 : Cond.fieldLink R_Mod 42 "StateCoderModel" "goesOn" "I" ∈ zT := zT_of (List.mem_of_getElem? (i := 484) (by decide +kernel)) rfl
theorem fl_Mod_39 : Cond.fieldLink R_Mod 39 "StateCoderModel" "outLong" "I" ∈ zT := zT_of (List.mem_of_getElem? (i := 486) (by decide +kernel)) rfl
theorem fl_Mod_13 : Cond.fieldLink R_Mod 13 "StateCoderModel" "out" "[I" ∈ zT := zT_of (List.mem_of_getElem? (i := 485) (by decide +kernel)) rfl
theorem fl_Mod_35 : Cond.fieldLink R_Mod 35 "StateCoderModel" "inLong" "I" ∈ zT := zT_of (List.mem_of_getElem? (i := 483) (by decide +kernel)) rfl
theorem cn_Mod_45 : Cond.constant R_Mod 45 (iZ 65535) ∈ zT := zT_of (List.mem_of_getElem? (i := 550) (by decide +kernel)) rfl
theorem fl_Mod_16 : Cond.fieldLink R_Mod 16 "StateCoderModel" "counts" "[I" ∈ zT := zT_of (List.mem_of_getElem? (i := 487) (by decide +kernel)) rfl
theorem fl_Mod_50 : Cond.fieldLink R_Mod 50 "StateCoderModel" "order" "I" ∈ zT := zT_of (List.mem_of_getElem? (i := 488) (by decide +kernel)) rfl
theorem fl_Mod_19 : Cond.fieldLink R_Mod 19 "StateCoderModel" "points" "[I" ∈ zT := zT_of (List.mem_of_getElem? (i := 489) (by decide +kernel)) rfl
theorem cd_Mod_last : Cond.code y_Mod_last b_Mod_last 3 (some .int) ∈ zT := zT_of (List.mem_of_getElem? (i := 639) (by decide +kernel)) rfl
theorem in_Mod : Cond.initialized R_Mod ∈ zT := zT_of (List.mem_of_getElem? (i := 39) (by decide +kernel)) rfl
theorem hd_Mod_last : y_Mod_last.cls ≠ "java/lang/invoke/MethodHandle" ∧ y_Mod_last.cls ≠ "java/lang/invoke/VarHandle" ∧ (parseMethodDescriptor y_Mod_last.desc).map (fun d => d.parameters.length) = some 0 := by decide +kernel
theorem lk_Mod_109 : Cond.methodLink R_Mod 109 y_Mod_last ∈ zT := zT_of (List.mem_of_getElem? (i := 636) (by decide +kernel)) rfl
theorem im_Mod_last : Cond.instanceMethod y_Mod_last ∈ zT := zT_of (List.mem_of_getElem? (i := 638) (by decide +kernel)) rfl
theorem se_Mod_last : Cond.selects R_Mod y_Mod_last y_Mod_last ∈ zT := zT_of (List.mem_of_getElem? (i := 24) (by decide +kernel)) rfl
theorem cd_Mod_bitsOf : Cond.code y_Mod_bitsOf b_Mod_bitsOf 3 (some .int) ∈ zT := zT_of (List.mem_of_getElem? (i := 655) (by decide +kernel)) rfl
theorem hd_Mod_bitsOf : y_Mod_bitsOf.cls ≠ "java/lang/invoke/MethodHandle" ∧ y_Mod_bitsOf.cls ≠ "java/lang/invoke/VarHandle" ∧ (parseMethodDescriptor y_Mod_bitsOf.desc).map (fun d => d.parameters.length) = some 1 := by decide +kernel
theorem lk_Mod_112 : Cond.methodLink R_Mod 112 y_Mod_bitsOf ∈ zT := zT_of (List.mem_of_getElem? (i := 652) (by decide +kernel)) rfl
theorem im_Mod_bitsOf : Cond.instanceMethod y_Mod_bitsOf ∈ zT := zT_of (List.mem_of_getElem? (i := 654) (by decide +kernel)) rfl
theorem se_Mod_bitsOf : Cond.selects R_Mod y_Mod_bitsOf y_Mod_bitsOf ∈ zT := zT_of (List.mem_of_getElem? (i := 26) (by decide +kernel)) rfl
theorem fl_Mod_22 : Cond.fieldLink R_Mod 22 "StateCoderModel" "symbolOf" "[I" ∈ zT := zT_of (List.mem_of_getElem? (i := 490) (by decide +kernel)) rfl
theorem cd_Mod_weight : Cond.code y_Mod_weight b_Mod_weight 1 (some .int) ∈ zT := zT_of (List.mem_of_getElem? (i := 568) (by decide +kernel)) rfl
theorem hd_Mod_weight : y_Mod_weight.cls ≠ "java/lang/invoke/MethodHandle" ∧ y_Mod_weight.cls ≠ "java/lang/invoke/VarHandle" ∧ (parseMethodDescriptor y_Mod_weight.desc).map (fun d => d.parameters.length) = some 1 := by decide +kernel
theorem lk_Mod_46 : Cond.methodLink R_Mod 46 y_Mod_weight ∈ zT := zT_of (List.mem_of_getElem? (i := 566) (by decide +kernel)) rfl
theorem st_Mod_weight : Cond.static y_Mod_weight ∈ zT := zT_of (List.mem_of_getElem? (i := 567) (by decide +kernel)) rfl
theorem d_Mod_weight_0 : decode b_Mod_weight 0 = .ok (.iload_n 0, 1) := by decide +kernel
theorem d_Mod_weight_1 : decode b_Mod_weight 1 = .ok (.ifCond .ge 7, 3) := by decide +kernel
theorem d_Mod_weight_4 : decode b_Mod_weight 4 = .ok (.iconst 1, 1) := by decide +kernel
theorem d_Mod_weight_5 : decode b_Mod_weight 5 = .ok (.goto 4, 3) := by decide +kernel
theorem d_Mod_weight_8 : decode b_Mod_weight 8 = .ok (.iload_n 0, 1) := by decide +kernel
theorem d_Mod_weight_9 : decode b_Mod_weight 9 = .ok (.ireturn, 1) := by decide +kernel
theorem d_Mod_isOrder_0 : decode b_Mod_isOrder 0 = .ok (.iload_n 0, 1) := by decide +kernel
theorem d_Mod_isOrder_1 : decode b_Mod_isOrder 1 = .ok (.iconst 5, 1) := by decide +kernel
theorem d_Mod_isOrder_2 : decode b_Mod_isOrder 2 = .ok (.if_icmp .lt 13, 3) := by decide +kernel
theorem d_Mod_isOrder_5 : decode b_Mod_isOrder 5 = .ok (.iload_n 0, 1) := by decide +kernel
theorem d_Mod_isOrder_6 : decode b_Mod_isOrder 6 = .ok (.bipush 12, 2) := by decide +kernel
theorem d_Mod_isOrder_8 : decode b_Mod_isOrder 8 = .ok (.if_icmp .gt 7, 3) := by decide +kernel
theorem d_Mod_isOrder_11 : decode b_Mod_isOrder 11 = .ok (.iconst 1, 1) := by decide +kernel
theorem d_Mod_isOrder_12 : decode b_Mod_isOrder 12 = .ok (.goto 4, 3) := by decide +kernel
theorem d_Mod_isOrder_15 : decode b_Mod_isOrder 15 = .ok (.iconst 0, 1) := by decide +kernel
theorem d_Mod_isOrder_16 : decode b_Mod_isOrder 16 = .ok (.ireturn, 1) := by decide +kernel
theorem d_Mod_at_0 : decode b_Mod_at 0 = .ok (.aload_n 0, 1) := by decide +kernel
theorem d_Mod_at_1 : decode b_Mod_at 1 = .ok (.getfield 42, 3) := by decide +kernel
theorem d_Mod_at_4 : decode b_Mod_at 4 = .ok (.ireturn, 1) := by decide +kernel
theorem d_Mod_size_0 : decode b_Mod_size 0 = .ok (.aload_n 0, 1) := by decide +kernel
theorem d_Mod_size_1 : decode b_Mod_size 1 = .ok (.getfield 39, 3) := by decide +kernel
theorem d_Mod_size_4 : decode b_Mod_size 4 = .ok (.ireturn, 1) := by decide +kernel
theorem d_Mod_byteAt_0 : decode b_Mod_byteAt 0 = .ok (.iload_n 1, 1) := by decide +kernel
theorem d_Mod_byteAt_1 : decode b_Mod_byteAt 1 = .ok (.ifCond .lt 11, 3) := by decide +kernel
theorem d_Mod_byteAt_4 : decode b_Mod_byteAt 4 = .ok (.iload_n 1, 1) := by decide +kernel
theorem d_Mod_byteAt_5 : decode b_Mod_byteAt 5 = .ok (.aload_n 0, 1) := by decide +kernel
theorem d_Mod_byteAt_6 : decode b_Mod_byteAt 6 = .ok (.getfield 39, 3) := by decide +kernel
theorem d_Mod_byteAt_9 : decode b_Mod_byteAt 9 = .ok (.if_icmp .lt 7, 3) := by decide +kernel
theorem d_Mod_byteAt_12 : decode b_Mod_byteAt 12 = .ok (.iconst (-1), 1) := by decide +kernel
theorem d_Mod_byteAt_13 : decode b_Mod_byteAt 13 = .ok (.goto 9, 3) := by decide +kernel
theorem d_Mod_byteAt_16 : decode b_Mod_byteAt 16 = .ok (.aload_n 0, 1) := by decide +kernel
theorem d_Mod_byteAt_17 : decode b_Mod_byteAt 17 = .ok (.getfield 13, 3) := by decide +kernel
theorem d_Mod_byteAt_20 : decode b_Mod_byteAt 20 = .ok (.iload_n 1, 1) := by decide +kernel
theorem d_Mod_byteAt_21 : decode b_Mod_byteAt 21 = .ok (.iaload, 1) := by decide +kernel
theorem d_Mod_byteAt_22 : decode b_Mod_byteAt 22 = .ok (.ireturn, 1) := by decide +kernel
theorem d_Mod_place_0 : decode b_Mod_place 0 = .ok (.iload_n 1, 1) := by decide +kernel
theorem d_Mod_place_1 : decode b_Mod_place 1 = .ok (.ifCond .lt 11, 3) := by decide +kernel
theorem d_Mod_place_4 : decode b_Mod_place 4 = .ok (.iload_n 1, 1) := by decide +kernel
theorem d_Mod_place_5 : decode b_Mod_place 5 = .ok (.aload_n 0, 1) := by decide +kernel
theorem d_Mod_place_6 : decode b_Mod_place 6 = .ok (.getfield 35, 3) := by decide +kernel
theorem d_Mod_place_9 : decode b_Mod_place 9 = .ok (.if_icmp .le 5, 3) := by decide +kernel
theorem d_Mod_place_12 : decode b_Mod_place 12 = .ok (.iconst 0, 1) := by decide +kernel
theorem d_Mod_place_13 : decode b_Mod_place 13 = .ok (.ireturn, 1) := by decide +kernel
theorem d_Mod_place_14 : decode b_Mod_place 14 = .ok (.aload_n 0, 1) := by decide +kernel
theorem d_Mod_place_15 : decode b_Mod_place 15 = .ok (.iload_n 1, 1) := by decide +kernel
theorem d_Mod_place_16 : decode b_Mod_place 16 = .ok (.putfield 42, 3) := by decide +kernel
theorem d_Mod_place_19 : decode b_Mod_place 19 = .ok (.iconst 1, 1) := by decide +kernel
theorem d_Mod_place_20 : decode b_Mod_place 20 = .ok (.ireturn, 1) := by decide +kernel
theorem d_Mod_count_0 : decode b_Mod_count 0 = .ok (.iload_n 1, 1) := by decide +kernel
theorem d_Mod_count_1 : decode b_Mod_count 1 = .ok (.ifCond .lt 20, 3) := by decide +kernel
theorem d_Mod_count_4 : decode b_Mod_count 4 = .ok (.iload_n 1, 1) := by decide +kernel
theorem d_Mod_count_5 : decode b_Mod_count 5 = .ok (.sipush 256, 3) := by decide +kernel
theorem d_Mod_count_8 : decode b_Mod_count 8 = .ok (.if_icmp .ge 13, 3) := by decide +kernel
theorem d_Mod_count_11 : decode b_Mod_count 11 = .ok (.iload_n 2, 1) := by decide +kernel
theorem d_Mod_count_12 : decode b_Mod_count 12 = .ok (.ifCond .lt 9, 3) := by decide +kernel
theorem d_Mod_count_15 : decode b_Mod_count 15 = .ok (.iload_n 2, 1) := by decide +kernel
theorem d_Mod_count_16 : decode b_Mod_count 16 = .ok (.ldc 45, 2) := by decide +kernel
theorem d_Mod_count_18 : decode b_Mod_count 18 = .ok (.if_icmp .le 5, 3) := by decide +kernel
theorem d_Mod_count_21 : decode b_Mod_count 21 = .ok (.iconst 0, 1) := by decide +kernel
theorem d_Mod_count_22 : decode b_Mod_count 22 = .ok (.ireturn, 1) := by decide +kernel
theorem d_Mod_count_23 : decode b_Mod_count 23 = .ok (.aload_n 0, 1) := by decide +kernel
theorem d_Mod_count_24 : decode b_Mod_count 24 = .ok (.getfield 16, 3) := by decide +kernel
theorem d_Mod_count_27 : decode b_Mod_count 27 = .ok (.iload_n 1, 1) := by decide +kernel
theorem d_Mod_count_28 : decode b_Mod_count 28 = .ok (.iload_n 2, 1) := by decide +kernel
theorem d_Mod_count_29 : decode b_Mod_count 29 = .ok (.iastore, 1) := by decide +kernel
theorem d_Mod_count_30 : decode b_Mod_count 30 = .ok (.iconst 1, 1) := by decide +kernel
theorem d_Mod_count_31 : decode b_Mod_count 31 = .ok (.ireturn, 1) := by decide +kernel
theorem d_Mod_points_0 : decode b_Mod_points 0 = .ok (.aload_n 0, 1) := by decide +kernel
theorem d_Mod_points_1 : decode b_Mod_points 1 = .ok (.getfield 50, 3) := by decide +kernel
theorem d_Mod_points_4 : decode b_Mod_points 4 = .ok (.ifCond .eq 14, 3) := by decide +kernel
theorem d_Mod_points_7 : decode b_Mod_points 7 = .ok (.iload_n 1, 1) := by decide +kernel
theorem d_Mod_points_8 : decode b_Mod_points 8 = .ok (.ifCond .lt 10, 3) := by decide +kernel
theorem d_Mod_points_11 : decode b_Mod_points 11 = .ok (.iload_n 1, 1) := by decide +kernel
theorem d_Mod_points_12 : decode b_Mod_points 12 = .ok (.sipush 256, 3) := by decide +kernel
theorem d_Mod_points_15 : decode b_Mod_points 15 = .ok (.if_icmp .lt 8, 3) := by decide +kernel
theorem d_Mod_points_18 : decode b_Mod_points 18 = .ok (.bipush (-2), 2) := by decide +kernel
theorem d_Mod_points_20 : decode b_Mod_points 20 = .ok (.goto 9, 3) := by decide +kernel
theorem d_Mod_points_23 : decode b_Mod_points 23 = .ok (.aload_n 0, 1) := by decide +kernel
theorem d_Mod_points_24 : decode b_Mod_points 24 = .ok (.getfield 19, 3) := by decide +kernel
theorem d_Mod_points_27 : decode b_Mod_points 27 = .ok (.iload_n 1, 1) := by decide +kernel
theorem d_Mod_points_28 : decode b_Mod_points 28 = .ok (.iaload, 1) := by decide +kernel
theorem d_Mod_points_29 : decode b_Mod_points 29 = .ok (.ireturn, 1) := by decide +kernel
theorem d_Mod_last_0 : decode b_Mod_last 0 = .ok (.iconst (-1), 1) := by decide +kernel
theorem d_Mod_last_1 : decode b_Mod_last 1 = .ok (.istore_n 1, 1) := by decide +kernel
theorem d_Mod_last_2 : decode b_Mod_last 2 = .ok (.iconst 0, 1) := by decide +kernel
theorem d_Mod_last_3 : decode b_Mod_last 3 = .ok (.istore_n 2, 1) := by decide +kernel
theorem d_Mod_last_4 : decode b_Mod_last 4 = .ok (.iload_n 2, 1) := by decide +kernel
theorem d_Mod_last_5 : decode b_Mod_last 5 = .ok (.sipush 256, 3) := by decide +kernel
theorem d_Mod_last_8 : decode b_Mod_last 8 = .ok (.if_icmp .ge 20, 3) := by decide +kernel
theorem d_Mod_last_11 : decode b_Mod_last 11 = .ok (.aload_n 0, 1) := by decide +kernel
theorem d_Mod_last_12 : decode b_Mod_last 12 = .ok (.getfield 19, 3) := by decide +kernel
theorem d_Mod_last_15 : decode b_Mod_last 15 = .ok (.iload_n 2, 1) := by decide +kernel
theorem d_Mod_last_16 : decode b_Mod_last 16 = .ok (.iaload, 1) := by decide +kernel
theorem d_Mod_last_17 : decode b_Mod_last 17 = .ok (.ifCond .eq 5, 3) := by decide +kernel
theorem d_Mod_last_20 : decode b_Mod_last 20 = .ok (.iload_n 2, 1) := by decide +kernel
theorem d_Mod_last_21 : decode b_Mod_last 21 = .ok (.istore_n 1, 1) := by decide +kernel
theorem d_Mod_last_22 : decode b_Mod_last 22 = .ok (.iinc 2 1, 3) := by decide +kernel
theorem d_Mod_last_25 : decode b_Mod_last 25 = .ok (.goto (-21), 3) := by decide +kernel
theorem d_Mod_last_28 : decode b_Mod_last 28 = .ok (.iload_n 1, 1) := by decide +kernel
theorem d_Mod_last_29 : decode b_Mod_last 29 = .ok (.ireturn, 1) := by decide +kernel
theorem d_Mod_about_0 : decode b_Mod_about 0 = .ok (.aload_n 0, 1) := by decide +kernel
theorem d_Mod_about_1 : decode b_Mod_about 1 = .ok (.getfield 50, 3) := by decide +kernel
theorem d_Mod_about_4 : decode b_Mod_about 4 = .ok (.ifCond .ne 7, 3) := by decide +kernel
theorem d_Mod_about_7 : decode b_Mod_about 7 = .ok (.iconst (-1), 1) := by decide +kernel
theorem d_Mod_about_8 : decode b_Mod_about 8 = .ok (.goto 27, 3) := by decide +kernel
theorem d_Mod_about_11 : decode b_Mod_about 11 = .ok (.iload_n 1, 1) := by decide +kernel
theorem d_Mod_about_12 : decode b_Mod_about 12 = .ok (.ifCond .ne 10, 3) := by decide +kernel
theorem d_Mod_about_15 : decode b_Mod_about 15 = .ok (.aload_n 0, 1) := by decide +kernel
theorem d_Mod_about_16 : decode b_Mod_about 16 = .ok (.getfield 50, 3) := by decide +kernel
theorem d_Mod_about_19 : decode b_Mod_about 19 = .ok (.goto 16, 3) := by decide +kernel
theorem d_Mod_about_22 : decode b_Mod_about 22 = .ok (.iload_n 1, 1) := by decide +kernel
theorem d_Mod_about_23 : decode b_Mod_about 23 = .ok (.iconst 1, 1) := by decide +kernel
theorem d_Mod_about_24 : decode b_Mod_about 24 = .ok (.if_icmp .ne 10, 3) := by decide +kernel
theorem d_Mod_about_27 : decode b_Mod_about 27 = .ok (.aload_n 0, 1) := by decide +kernel
theorem d_Mod_about_28 : decode b_Mod_about 28 = .ok (.invokevirtual 109, 3) := by decide +kernel
theorem d_Mod_about_31 : decode b_Mod_about 31 = .ok (.goto 4, 3) := by decide +kernel
theorem d_Mod_about_34 : decode b_Mod_about 34 = .ok (.iconst (-1), 1) := by decide +kernel
theorem d_Mod_about_35 : decode b_Mod_about 35 = .ok (.ireturn, 1) := by decide +kernel
theorem d_Mod_bitsFor_0 : decode b_Mod_bitsFor 0 = .ok (.iconst 0, 1) := by decide +kernel
theorem d_Mod_bitsFor_1 : decode b_Mod_bitsFor 1 = .ok (.istore_n 1, 1) := by decide +kernel
theorem d_Mod_bitsFor_2 : decode b_Mod_bitsFor 2 = .ok (.iconst 1, 1) := by decide +kernel
theorem d_Mod_bitsFor_3 : decode b_Mod_bitsFor 3 = .ok (.iload_n 1, 1) := by decide +kernel
theorem d_Mod_bitsFor_4 : decode b_Mod_bitsFor 4 = .ok (.iconst 1, 1) := by decide +kernel
theorem d_Mod_bitsFor_5 : decode b_Mod_bitsFor 5 = .ok (.iadd, 1) := by decide +kernel
theorem d_Mod_bitsFor_6 : decode b_Mod_bitsFor 6 = .ok (.ishl, 1) := by decide +kernel
theorem d_Mod_bitsFor_7 : decode b_Mod_bitsFor 7 = .ok (.iload_n 0, 1) := by decide +kernel
theorem d_Mod_bitsFor_8 : decode b_Mod_bitsFor 8 = .ok (.iconst 1, 1) := by decide +kernel
theorem d_Mod_bitsFor_9 : decode b_Mod_bitsFor 9 = .ok (.iadd, 1) := by decide +kernel
theorem d_Mod_bitsFor_10 : decode b_Mod_bitsFor 10 = .ok (.if_icmp .gt 9, 3) := by decide +kernel
theorem d_Mod_bitsFor_13 : decode b_Mod_bitsFor 13 = .ok (.iinc 1 1, 3) := by decide +kernel
theorem d_Mod_bitsFor_16 : decode b_Mod_bitsFor 16 = .ok (.goto (-14), 3) := by decide +kernel
theorem d_Mod_bitsFor_19 : decode b_Mod_bitsFor 19 = .ok (.iload_n 1, 1) := by decide +kernel
theorem d_Mod_bitsFor_20 : decode b_Mod_bitsFor 20 = .ok (.ireturn, 1) := by decide +kernel
theorem d_Mod_bitsOf_0 : decode b_Mod_bitsOf 0 = .ok (.iconst 0, 1) := by decide +kernel
theorem d_Mod_bitsOf_1 : decode b_Mod_bitsOf 1 = .ok (.istore_n 2, 1) := by decide +kernel
theorem d_Mod_bitsOf_2 : decode b_Mod_bitsOf 2 = .ok (.iconst 1, 1) := by decide +kernel
theorem d_Mod_bitsOf_3 : decode b_Mod_bitsOf 3 = .ok (.iload_n 2, 1) := by decide +kernel
theorem d_Mod_bitsOf_4 : decode b_Mod_bitsOf 4 = .ok (.iconst 1, 1) := by decide +kernel
theorem d_Mod_bitsOf_5 : decode b_Mod_bitsOf 5 = .ok (.iadd, 1) := by decide +kernel
theorem d_Mod_bitsOf_6 : decode b_Mod_bitsOf 6 = .ok (.ishl, 1) := by decide +kernel
theorem d_Mod_bitsOf_7 : decode b_Mod_bitsOf 7 = .ok (.iload_n 1, 1) := by decide +kernel
theorem d_Mod_bitsOf_8 : decode b_Mod_bitsOf 8 = .ok (.if_icmp .gt 9, 3) := by decide +kernel
theorem d_Mod_bitsOf_11 : decode b_Mod_bitsOf 11 = .ok (.iinc 2 1, 3) := by decide +kernel
theorem d_Mod_bitsOf_14 : decode b_Mod_bitsOf 14 = .ok (.goto (-12), 3) := by decide +kernel
theorem d_Mod_bitsOf_17 : decode b_Mod_bitsOf 17 = .ok (.aload_n 0, 1) := by decide +kernel
theorem d_Mod_bitsOf_18 : decode b_Mod_bitsOf 18 = .ok (.getfield 50, 3) := by decide +kernel
theorem d_Mod_bitsOf_21 : decode b_Mod_bitsOf 21 = .ok (.iload_n 2, 1) := by decide +kernel
theorem d_Mod_bitsOf_22 : decode b_Mod_bitsOf 22 = .ok (.isub, 1) := by decide +kernel
theorem d_Mod_bitsOf_23 : decode b_Mod_bitsOf 23 = .ok (.ireturn, 1) := by decide +kernel
theorem d_Mod_baseOf_0 : decode b_Mod_baseOf 0 = .ok (.iload_n 1, 1) := by decide +kernel
theorem d_Mod_baseOf_1 : decode b_Mod_baseOf 1 = .ok (.aload_n 0, 1) := by decide +kernel
theorem d_Mod_baseOf_2 : decode b_Mod_baseOf 2 = .ok (.iload_n 1, 1) := by decide +kernel
theorem d_Mod_baseOf_3 : decode b_Mod_baseOf 3 = .ok (.invokevirtual 112, 3) := by decide +kernel
theorem d_Mod_baseOf_6 : decode b_Mod_baseOf 6 = .ok (.ishl, 1) := by decide +kernel
theorem d_Mod_baseOf_7 : decode b_Mod_baseOf 7 = .ok (.iconst 1, 1) := by decide +kernel
theorem d_Mod_baseOf_8 : decode b_Mod_baseOf 8 = .ok (.aload_n 0, 1) := by decide +kernel
theorem d_Mod_baseOf_9 : decode b_Mod_baseOf 9 = .ok (.getfield 50, 3) := by decide +kernel
theorem d_Mod_baseOf_12 : decode b_Mod_baseOf 12 = .ok (.ishl, 1) := by decide +kernel
theorem d_Mod_baseOf_13 : decode b_Mod_baseOf 13 = .ok (.isub, 1) := by decide +kernel
theorem d_Mod_baseOf_14 : decode b_Mod_baseOf 14 = .ok (.ireturn, 1) := by decide +kernel
theorem d_Mod_numberOf_0 : decode b_Mod_numberOf 0 = .ok (.aload_n 0, 1) := by decide +kernel
theorem d_Mod_numberOf_1 : decode b_Mod_numberOf 1 = .ok (.getfield 19, 3) := by decide +kernel
theorem d_Mod_numberOf_4 : decode b_Mod_numberOf 4 = .ok (.aload_n 0, 1) := by decide +kernel
theorem d_Mod_numberOf_5 : decode b_Mod_numberOf 5 = .ok (.getfield 22, 3) := by decide +kernel
theorem d_Mod_numberOf_8 : decode b_Mod_numberOf 8 = .ok (.iload_n 1, 1) := by decide +kernel
theorem d_Mod_numberOf_9 : decode b_Mod_numberOf 9 = .ok (.iaload, 1) := by decide +kernel
theorem d_Mod_numberOf_10 : decode b_Mod_numberOf 10 = .ok (.iaload, 1) := by decide +kernel
theorem d_Mod_numberOf_11 : decode b_Mod_numberOf 11 = .ok (.invokestatic 46, 3) := by decide +kernel
theorem d_Mod_numberOf_14 : decode b_Mod_numberOf 14 = .ok (.istore_n 2, 1) := by decide +kernel
theorem d_Mod_numberOf_15 : decode b_Mod_numberOf 15 = .ok (.iconst 0, 1) := by decide +kernel
theorem d_Mod_numberOf_16 : decode b_Mod_numberOf 16 = .ok (.istore_n 3, 1) := by decide +kernel
theorem d_Mod_numberOf_17 : decode b_Mod_numberOf 17 = .ok (.iload_n 3, 1) := by decide +kernel
theorem d_Mod_numberOf_18 : decode b_Mod_numberOf 18 = .ok (.iload_n 1, 1) := by decide +kernel
theorem d_Mod_numberOf_19 : decode b_Mod_numberOf 19 = .ok (.if_icmp .ge 27, 3) := by decide +kernel
theorem d_Mod_numberOf_22 : decode b_Mod_numberOf 22 = .ok (.aload_n 0, 1) := by decide +kernel
theorem d_Mod_numberOf_23 : decode b_Mod_numberOf 23 = .ok (.getfield 22, 3) := by decide +kernel
theorem d_Mod_numberOf_26 : decode b_Mod_numberOf 26 = .ok (.iload_n 3, 1) := by decide +kernel
theorem d_Mod_numberOf_27 : decode b_Mod_numberOf 27 = .ok (.iaload, 1) := by decide +kernel
theorem d_Mod_numberOf_28 : decode b_Mod_numberOf 28 = .ok (.aload_n 0, 1) := by decide +kernel
theorem d_Mod_numberOf_29 : decode b_Mod_numberOf 29 = .ok (.getfield 22, 3) := by decide +kernel
theorem d_Mod_numberOf_32 : decode b_Mod_numberOf 32 = .ok (.iload_n 1, 1) := by decide +kernel
theorem d_Mod_numberOf_33 : decode b_Mod_numberOf 33 = .ok (.iaload, 1) := by decide +kernel
theorem d_Mod_numberOf_34 : decode b_Mod_numberOf 34 = .ok (.if_icmp .ne 6, 3) := by decide +kernel
theorem d_Mod_numberOf_37 : decode b_Mod_numberOf 37 = .ok (.iinc 2 1, 3) := by decide +kernel
theorem d_Mod_numberOf_40 : decode b_Mod_numberOf 40 = .ok (.iinc 3 1, 3) := by decide +kernel
theorem d_Mod_numberOf_43 : decode b_Mod_numberOf 43 = .ok (.goto (-26), 3) := by decide +kernel
theorem d_Mod_numberOf_46 : decode b_Mod_numberOf 46 = .ok (.iload_n 2, 1) := by decide +kernel
theorem d_Mod_numberOf_47 : decode b_Mod_numberOf 47 = .ok (.ireturn, 1) := by decide +kernel
abbrev rm_M_weight : Room := { frames := 0, cells := 0, slots := 0, locals := 0 }
set_option maxHeartbeats 4000000 in
set_option maxRecDepth 100000 in
theorem c_M_weight (l : Launch) (D : va_G) (cI cB cZ : ClassId) (x : Int) (hr : -1 ≤ x ∧ x < 2147483648) : Met l y_Mod_weight (.code y_Mod_weight b_Mod_weight 1 (some .int) :: zT) rm_M_weight (zRc D classes (TY cI cB cZ) [] [.int (iZ x)]) (zSi (fun z => z = wgt x)) 0 0 (fun _ => False) := by
  refine z_ofr (by decide) (Nat.le_of_ble_eq_true rfl) (Or.inl rfl) ?_
  intro p e s m args below meth c Q E jP jK jret ls jl
  obtain ⟨jx, jb, jrt, jml, jown, jts, jlk⟩ := E
  have jown : s.vm.findClass R_Mod = some m.cls := jown
  have jl : lv_has ls 1 [(0, .int (iZ x))] := jl
  refine lv_iload_n jx jb d_Mod_weight_0 rfl (lv_at jl 0 rfl) ?_
  refine z_if_ge (tgt := 8) jx jb d_Mod_weight_1 (by decide) ⟨by omega, by omega⟩ (fun hc1 => ?_) (fun hc1 => ?_)
  ·
    refine lv_iload_n jx jb d_Mod_weight_8 rfl (lv_at jl 0 rfl) ?_
    exact jret _ _ _ (Or.inl rfl) (by first | exact (if_pos (by omega)).symm | exact (if_neg (by omega)).symm) d_Mod_weight_9
  ·
    refine lv_iconst (v := iZ 1) jx jb d_Mod_weight_4 rfl ?_
    refine lv_goto (tgt := 9) jx jb d_Mod_weight_5 (by decide) ?_
    exact jret _ _ _ (Or.inl rfl) (by first | exact (if_pos (by omega)).symm | exact (if_neg (by omega)).symm) d_Mod_weight_9
abbrev rm_M_isOrder : Room := { frames := 0, cells := 0, slots := 0, locals := 0 }
set_option maxHeartbeats 4000000 in
set_option maxRecDepth 100000 in
theorem c_M_isOrder (l : Launch) (D : va_G) (cI cB cZ : ClassId) (x : Int) (hr : -2147483648 ≤ x ∧ x < 2147483648) : Met l y_Mod_isOrder (.code y_Mod_isOrder b_Mod_isOrder 1 (some .boolean) :: zT) rm_M_isOrder (zRc D classes (TY cI cB cZ) [] [.int (iZ x)]) (zSi (fun z => (z = 1 ∧ 5 ≤ x ∧ x ≤ 12) ∨ (z = 0 ∧ (x < 5 ∨ 12 < x)))) 0 0 (fun _ => False) := by
  refine z_ofr (by decide) (Nat.le_of_ble_eq_true rfl) (Or.inr rfl) ?_
  intro p e s m args below meth c Q E jP jK jret ls jl
  obtain ⟨jx, jb, jrt, jml, jown, jts, jlk⟩ := E
  have jown : s.vm.findClass R_Mod = some m.cls := jown
  have jl : lv_has ls 1 [(0, .int (iZ x))] := jl
  refine lv_iload_n jx jb d_Mod_isOrder_0 rfl (lv_at jl 0 rfl) ?_
  refine lv_iconst (v := iZ 5) jx jb d_Mod_isOrder_1 rfl ?_
  refine z_icmp_lt (tgt := 15) jx jb d_Mod_isOrder_2 (by decide) ⟨⟨by omega, by omega⟩, ⟨by decide, by decide⟩⟩ (fun hc2 => ?_) (fun hc2 => ?_)
  ·
    refine lv_iconst (v := iZ 0) jx jb d_Mod_isOrder_15 rfl ?_
    exact jret _ _ _ (Or.inr (Or.inl rfl)) (by omega) d_Mod_isOrder_16
  ·
    refine lv_iload_n jx jb d_Mod_isOrder_5 rfl (lv_at jl 0 rfl) ?_
    refine lv_bipush (v := iZ 12) jx jb d_Mod_isOrder_6 (by decide) ?_
    refine z_icmp_gt (tgt := 15) jx jb d_Mod_isOrder_8 (by decide) ⟨⟨by omega, by omega⟩, ⟨by decide, by decide⟩⟩ (fun hc8 => ?_) (fun hc8 => ?_)
    ·
      refine lv_iconst (v := iZ 0) jx jb d_Mod_isOrder_15 rfl ?_
      exact jret _ _ _ (Or.inr (Or.inl rfl)) (by omega) d_Mod_isOrder_16
    ·
      refine lv_iconst (v := iZ 1) jx jb d_Mod_isOrder_11 rfl ?_
      refine lv_goto (tgt := 16) jx jb d_Mod_isOrder_12 (by decide) ?_
      exact jret _ _ _ (Or.inr (Or.inr rfl)) (by omega) d_Mod_isOrder_16
abbrev rm_M_at : Room := { frames := 0, cells := 0, slots := 0, locals := 0 }
set_option maxHeartbeats 4000000 in
set_option maxRecDepth 100000 in
theorem c_M_at (l : Launch) (D : va_G) (cI cB cZ : ClassId) (r : Nat) (ri : Nat) (ro : Nat) (rc : Nat) (rp : Nat) (rs : Nat) (rd : Nat) (rk : Nat) (rh : Nat) (iL : Int) (go : Int) (oL : Int) (o : Nat) (bP : Int) (bR : Int) : Met l y_Mod_at (.code y_Mod_at b_Mod_at 1 (some .int) :: zT) rm_M_at (zRc D classes (TY cI cB cZ) [(r, .inr (4, [.ref ri, .int (iZ iL), .int (iZ go), .ref ro, .int (iZ oL), .ref rc, .int (iZ (o : Int)), .ref rp, .ref rs, .ref rd, .ref rk, .ref rh, .int (iZ bP), .int (iZ bR)]))] [.ref r]) (zSi (fun z => z = go)) 0 0 (fun _ => False) := by
  refine z_ofr (by decide) (Nat.le_of_ble_eq_true rfl) (Or.inl rfl) ?_
  intro p e s m args below meth c Q E jP jK jret ls jl
  obtain ⟨jx, jb, jrt, jml, jown, jts, jlk⟩ := E
  have jown : s.vm.findClass R_Mod = some m.cls := jown
  have jl : lv_has ls 1 [(0, .ref r)] := jl
  refine lv_aload_n jx jb d_Mod_at_0 rfl (lv_at jl 0 rfl) ?_
  refine va_get (D := D) (ci := 4) (v := .int (iZ go)) (C := R_Mod) (T := F_Mod) (N := 14) jx jb jts i_Mod jown jK.1 jP 0 rfl rfl 2 (by decide) (jts _ fl_Mod_42) (fun _ h9 => h9) rfl d_Mod_at_1 ?_
  exact jret _ _ _ (Or.inl rfl) (rfl) d_Mod_at_4
abbrev rm_M_size : Room := { frames := 0, cells := 0, slots := 0, locals := 0 }
set_option maxHeartbeats 4000000 in
set_option maxRecDepth 100000 in
theorem c_M_size (l : Launch) (D : va_G) (cI cB cZ : ClassId) (r : Nat) (ri : Nat) (ro : Nat) (rc : Nat) (rp : Nat) (rs : Nat) (rd : Nat) (rk : Nat) (rh : Nat) (iL : Int) (go : Int) (oL : Int) (o : Nat) (bP : Int) (bR : Int) : Met l y_Mod_size (.code y_Mod_size b_Mod_size 1 (some .int) :: zT) rm_M_size (zRc D classes (TY cI cB cZ) [(r, .inr (4, [.ref ri, .int (iZ iL), .int (iZ go), .ref ro, .int (iZ oL), .ref rc, .int (iZ (o : Int)), .ref rp, .ref rs, .ref rd, .ref rk, .ref rh, .int (iZ bP), .int (iZ bR)]))] [.ref r]) (zSi (fun z => z = oL)) 0 0 (fun _ => False) := by
  refine z_ofr (by decide) (Nat.le_of_ble_eq_true rfl) (Or.inl rfl) ?_
  intro p e s m args below meth c Q E jP jK jret ls jl
  obtain ⟨jx, jb, jrt, jml, jown, jts, jlk⟩ := E
  have jown : s.vm.findClass R_Mod = some m.cls := jown
  have jl : lv_has ls 1 [(0, .ref r)] := jl
  refine lv_aload_n jx jb d_Mod_size_0 rfl (lv_at jl 0 rfl) ?_
  refine va_get (D := D) (ci := 4) (v := .int (iZ oL)) (C := R_Mod) (T := F_Mod) (N := 14) jx jb jts i_Mod jown jK.1 jP 0 rfl rfl 4 (by decide) (jts _ fl_Mod_39) (fun _ h9 => h9) rfl d_Mod_size_1 ?_
  exact jret _ _ _ (Or.inl rfl) (rfl) d_Mod_size_4
abbrev rm_M_byteAt : Room := { frames := 0, cells := 0, slots := 0, locals := 0 }
set_option maxHeartbeats 4000000 in
set_option maxRecDepth 100000 in
theorem c_M_byteAt (l : Launch) (D : va_G) (cI cB cZ : ClassId) (r : Nat) (ri : Nat) (ro : Nat) (rc : Nat) (rp : Nat) (rs : Nat) (rd : Nat) (rk : Nat) (rh : Nat) (iL : Int) (go : Int) (oL : Int) (o : Nat) (bP : Int) (bR : Int) (xo : Nat → Int) (k : Int) (hoL : 0 ≤ oL ∧ oL ≤ 6000) (hk : -2147483648 ≤ k ∧ k < 2147483648) : Met l y_Mod_byteAt (.code y_Mod_byteAt b_Mod_byteAt 2 (some .int) :: zT) rm_M_byteAt (zRc D classes (TY cI cB cZ) [(r, .inr (4, [.ref ri, .int (iZ iL), .int (iZ go), .ref ro, .int (iZ oL), .ref rc, .int (iZ (o : Int)), .ref rp, .ref rs, .ref rd, .ref rk, .ref rh, .int (iZ bP), .int (iZ bR)])), (ro, .inl (cI, 6000, .inl (zA xo)))] [.ref r, .int (iZ k)]) (zSi (fun z => z = if 0 ≤ k ∧ k < oL then xo k.toNat else -1)) 0 0 (fun _ => False) := by
  refine z_ofr (by decide) (Nat.le_of_ble_eq_true rfl) (Or.inl rfl) ?_
  intro p e s m args below meth c Q E jP jK jret ls jl
  obtain ⟨jx, jb, jrt, jml, jown, jts, jlk⟩ := E
  have jown : s.vm.findClass R_Mod = some m.cls := jown
  have jl : lv_has ls 2 [(0, .ref r), (1, .int (iZ k))] := jl
  refine lv_iload_n jx jb d_Mod_byteAt_0 rfl (lv_at jl 1 rfl) ?_
  refine z_if_lt (tgt := 12) jx jb d_Mod_byteAt_1 (by decide) ⟨by omega, by omega⟩ (fun hc1 => ?_) (fun hc1 => ?_)
  ·
    refine lv_iconst (v := iZ (-1)) jx jb d_Mod_byteAt_12 rfl ?_
    refine lv_goto (tgt := 22) jx jb d_Mod_byteAt_13 (by decide) ?_
    exact jret _ _ _ (Or.inl rfl) (by first | exact (if_pos (by omega)).symm | exact (if_neg (by omega)).symm) d_Mod_byteAt_22
  ·
    refine lv_iload_n jx jb d_Mod_byteAt_4 rfl (lv_at jl 1 rfl) ?_
    refine lv_aload_n jx jb d_Mod_byteAt_5 rfl (lv_at jl 0 rfl) ?_
    refine va_get (D := D) (ci := 4) (v := .int (iZ oL)) (C := R_Mod) (T := F_Mod) (N := 14) jx jb jts i_Mod jown jK.1 jP 0 rfl rfl 4 (by decide) (jts _ fl_Mod_39) (fun _ h9 => h9) rfl d_Mod_byteAt_6 ?_
    refine z_icmp_lt (tgt := 16) jx jb d_Mod_byteAt_9 (by decide) ⟨⟨by omega, by omega⟩, ⟨by omega, by omega⟩⟩ (fun hc9 => ?_) (fun hc9 => ?_)
    ·
      refine lv_aload_n jx jb d_Mod_byteAt_16 rfl (lv_at jl 0 rfl) ?_
      refine va_get (D := D) (ci := 4) (v := .ref ro) (C := R_Mod) (T := F_Mod) (N := 14) jx jb jts i_Mod jown jK.1 jP 0 rfl rfl 3 (by decide) (jts _ fl_Mod_13) (fun _ h9 => h9) rfl d_Mod_byteAt_17 ?_
      refine lv_iload_n jx jb d_Mod_byteAt_20 rfl (lv_at jl 1 rfl) ?_
      refine z_iald jx jb jK.1 jP 1 0 rfl rfl k.toNat (by omega) d_Mod_byteAt_21 ?_
      exact jret _ _ _ (Or.inl rfl) (by first | exact (if_pos (by omega)).symm | exact (if_neg (by omega)).symm) d_Mod_byteAt_22
    ·
      refine lv_iconst (v := iZ (-1)) jx jb d_Mod_byteAt_12 rfl ?_
      refine lv_goto (tgt := 22) jx jb d_Mod_byteAt_13 (by decide) ?_
      exact jret _ _ _ (Or.inl rfl) (by first | exact (if_pos (by omega)).symm | exact (if_neg (by omega)).symm) d_Mod_byteAt_22
abbrev rm_M_place : Room := { frames := 0, cells := 0, slots := 0, locals := 0 }
set_option maxHeartbeats 4000000 in
set_option maxRecDepth 100000 in
theorem c_M_place (l : Launch) (D : va_G) (cI cB cZ : ClassId) (sz : Nat) (r : Nat) (ri : Nat) (ro : Nat) (rc : Nat) (rp : Nat) (rs : Nat) (rd : Nat) (rk : Nat) (rh : Nat) (iL : Int) (go : Int) (oL : Int) (o : Nat) (bP : Int) (bR : Int) (x : Int) (hiL : 0 ≤ iL ∧ iL ≤ 6000) (hx1 : -2147483648 ≤ x ∧ x < 2147483648) : Met l y_Mod_place (.code y_Mod_place b_Mod_place 2 (some .boolean) :: zT) rm_M_place (zPc D classes (TY cI cB cZ) [(r, .inr (4, [.ref ri, .int (iZ iL), .int (iZ go), .ref ro, .int (iZ oL), .ref rc, .int (iZ (o : Int)), .ref rp, .ref rs, .ref rd, .ref rk, .ref rh, .int (iZ bP), .int (iZ bR)]))] sz [.ref r, .int (iZ x)]) (zFi (S := Int) D classes (fun z u => (z = 1 ∧ 0 ≤ x ∧ x ≤ iL ∧ u = x) ∨ (z = 0 ∧ (x < 0 ∨ iL < x) ∧ u = go)) (fun u => [(r, .inr (4, [.ref ri, .int (iZ iL), .int (iZ u), .ref ro, .int (iZ oL), .ref rc, .int (iZ (o : Int)), .ref rp, .ref rs, .ref rd, .ref rk, .ref rh, .int (iZ bP), .int (iZ bR)]))]) (va_A [(r, .inr (4, [.ref ri, .int (iZ iL), .int (iZ go), .ref ro, .int (iZ oL), .ref rc, .int (iZ (o : Int)), .ref rp, .ref rs, .ref rd, .ref rk, .ref rh, .int (iZ bP), .int (iZ bR)]))] sz)) 0 0 (va_A [(r, .inr (4, [.ref ri, .int (iZ iL), .int (iZ go), .ref ro, .int (iZ oL), .ref rc, .int (iZ (o : Int)), .ref rp, .ref rs, .ref rd, .ref rk, .ref rh, .int (iZ bP), .int (iZ bR)]))] sz) := by
  refine z_ofi (by decide) (Nat.le_of_ble_eq_true rfl) (Or.inr rfl) ?_
  intro p e s m args below meth c A Q E jA jK jret H locs jP jD jS ls jl
  obtain ⟨jx, jb, jrt, jml, jown, jts, jlk⟩ := E
  have jown : s.vm.findClass R_Mod = some m.cls := jown
  have jl : lv_has ls 2 [(0, .ref r), (1, .int (iZ x))] := jl
  refine lv_iload_n jx jb d_Mod_place_0 rfl (lv_at jl 1 rfl) ?_
  refine z_if_lt (tgt := 12) jx jb d_Mod_place_1 (by decide) ⟨by omega, by omega⟩ (fun hc1 => ?_) (fun hc1 => ?_)
  ·
    refine lv_iconst (v := iZ 0) jx jb d_Mod_place_12 rfl ?_
    exact jret _ _ _ (go) _ _ (Or.inr (Or.inl rfl)) (by omega) (jP.sub [0] rfl) (jD.sub [0] (by decide) rfl) jS d_Mod_place_13
  ·
    refine lv_iload_n jx jb d_Mod_place_4 rfl (lv_at jl 1 rfl) ?_
    refine lv_aload_n jx jb d_Mod_place_5 rfl (lv_at jl 0 rfl) ?_
    refine va_get (D := D) (ci := 4) (v := .int (iZ iL)) (C := R_Mod) (T := F_Mod) (N := 14) jx jb jts i_Mod jown jK.1 jP 0 rfl rfl 1 (by decide) (jts _ fl_Mod_35) (fun _ h9 => h9) rfl d_Mod_place_6 ?_
    refine z_icmp_le (tgt := 14) jx jb d_Mod_place_9 (by decide) ⟨⟨by omega, by omega⟩, ⟨by omega, by omega⟩⟩ (fun hc9 => ?_) (fun hc9 => ?_)
    ·
      refine lv_aload_n jx jb d_Mod_place_14 rfl (lv_at jl 0 rfl) ?_
      refine lv_iload_n jx jb d_Mod_place_15 rfl (lv_at jl 1 rfl) ?_
      refine va_put (D := D) (ci := 4) (v := .int (iZ x)) (ty := .int) (C := R_Mod) (T := F_Mod) (N := 14) jx jb jts i_Mod t_Mod t_Mod_ok n_Mod jown jK.1 jP jD jS 0 rfl rfl 2 (by decide) (jts _ fl_Mod_42) (fun _ h9 => h9) rfl (by decide +kernel) rfl rfl (Nat.le_of_ble_eq_true rfl) d_Mod_place_16 (fun H locs jP jD jS => ?_)
      have jP : va_P D classes [(r, .inr (4, [.ref ri, .int (iZ iL), .int (iZ x), .ref ro, .int (iZ oL), .ref rc, .int (iZ (o : Int)), .ref rp, .ref rs, .ref rd, .ref rk, .ref rh, .int (iZ bP), .int (iZ bR)]))] H := jP
      have jD : va_D A [(r, .inr (4, [.ref ri, .int (iZ iL), .int (iZ x), .ref ro, .int (iZ oL), .ref rc, .int (iZ (o : Int)), .ref rp, .ref rs, .ref rd, .ref rk, .ref rh, .int (iZ bP), .int (iZ bR)]))] := jD
      refine lv_iconst (v := iZ 1) jx jb d_Mod_place_19 rfl ?_
      exact jret _ _ _ (x) _ _ (Or.inr (Or.inr rfl)) (by omega) (jP.sub [0] rfl) (jD.sub [0] (by decide) rfl) jS d_Mod_place_20
    ·
      refine lv_iconst (v := iZ 0) jx jb d_Mod_place_12 rfl ?_
      exact jret _ _ _ (go) _ _ (Or.inr (Or.inl rfl)) (by omega) (jP.sub [0] rfl) (jD.sub [0] (by decide) rfl) jS d_Mod_place_13
abbrev rm_M_count : Room := { frames := 0, cells := 0, slots := 0, locals := 0 }
set_option maxHeartbeats 4000000 in
set_option maxRecDepth 100000 in
theorem c_M_count (l : Launch) (D : va_G) (cI cB cZ : ClassId) (sz : Nat) (r : Nat) (ri : Nat) (ro : Nat) (rc : Nat) (rp : Nat) (rs : Nat) (rd : Nat) (rk : Nat) (rh : Nat) (iL : Int) (go : Int) (oL : Int) (o : Nat) (bP : Int) (bR : Int) (xc : Nat → Int) (x : Int) (y : Int) (hx1 : -2147483648 ≤ x ∧ x < 2147483648) (hy1 : -2147483648 ≤ y ∧ y < 2147483648) : Met l y_Mod_count (.code y_Mod_count b_Mod_count 3 (some .boolean) :: zT) rm_M_count (zPc D classes (TY cI cB cZ) [(r, .inr (4, [.ref ri, .int (iZ iL), .int (iZ go), .ref ro, .int (iZ oL), .ref rc, .int (iZ (o : Int)), .ref rp, .ref rs, .ref rd, .ref rk, .ref rh, .int (iZ bP), .int (iZ bR)])), (rc, .inl (cI, 256, .inl (zA xc)))] sz [.ref r, .int (iZ x), .int (iZ y)]) (zFi (S := Nat → Int) D classes (fun z u => (z = 1 ∧ (0 ≤ x ∧ x < 256 ∧ 0 ≤ y ∧ y ≤ 65535) ∧ u = zu xc x.toNat y) ∨ (z = 0 ∧ ¬ (0 ≤ x ∧ x < 256 ∧ 0 ≤ y ∧ y ≤ 65535) ∧ u = xc)) (fun u => [(r, .inr (4, [.ref ri, .int (iZ iL), .int (iZ go), .ref ro, .int (iZ oL), .ref rc, .int (iZ (o : Int)), .ref rp, .ref rs, .ref rd, .ref rk, .ref rh, .int (iZ bP), .int (iZ bR)])), (rc, .inl (cI, 256, .inl (zA u)))]) (va_A [(r, .inr (4, [.ref ri, .int (iZ iL), .int (iZ go), .ref ro, .int (iZ oL), .ref rc, .int (iZ (o : Int)), .ref rp, .ref rs, .ref rd, .ref rk, .ref rh, .int (iZ bP), .int (iZ bR)])), (rc, .inl (cI, 256, .inl (zA xc)))] sz)) 0 0 (va_A [(r, .inr (4, [.ref ri, .int (iZ iL), .int (iZ go), .ref ro, .int (iZ oL), .ref rc, .int (iZ (o : Int)), .ref rp, .ref rs, .ref rd, .ref rk, .ref rh, .int (iZ bP), .int (iZ bR)])), (rc, .inl (cI, 256, .inl (zA xc)))] sz) := by
  refine z_ofi (by decide) (Nat.le_of_ble_eq_true rfl) (Or.inr rfl) ?_
  intro p e s m args below meth c A Q E jA jK jret H locs jP jD jS ls jl
  obtain ⟨jx, jb, jrt, jml, jown, jts, jlk⟩ := E
  have jown : s.vm.findClass R_Mod = some m.cls := jown
  have jl : lv_has ls 3 [(0, .ref r), (1, .int (iZ x)), (2, .int (iZ y))] := jl
  refine lv_iload_n jx jb d_Mod_count_0 rfl (lv_at jl 1 rfl) ?_
  refine z_if_lt (tgt := 21) jx jb d_Mod_count_1 (by decide) ⟨by omega, by omega⟩ (fun hc1 => ?_) (fun hc1 => ?_)
  ·
    refine lv_iconst (v := iZ 0) jx jb d_Mod_count_21 rfl ?_
    exact jret _ _ _ (xc) _ _ (Or.inr (Or.inl rfl)) (Or.inr ⟨rfl, by omega, rfl⟩) (jP.sub [0, 1] rfl) (jD.sub [0, 1] (by decide) rfl) jS d_Mod_count_22
  ·
    refine lv_iload_n jx jb d_Mod_count_4 rfl (lv_at jl 1 rfl) ?_
    refine lv_sipush (v := iZ 256) jx jb d_Mod_count_5 (by decide) ?_
    refine z_icmp_ge (tgt := 21) jx jb d_Mod_count_8 (by decide) ⟨⟨by omega, by omega⟩, ⟨by decide, by decide⟩⟩ (fun hc8 => ?_) (fun hc8 => ?_)
    ·
      refine lv_iconst (v := iZ 0) jx jb d_Mod_count_21 rfl ?_
      exact jret _ _ _ (xc) _ _ (Or.inr (Or.inl rfl)) (Or.inr ⟨rfl, by omega, rfl⟩) (jP.sub [0, 1] rfl) (jD.sub [0, 1] (by decide) rfl) jS d_Mod_count_22
    ·
      refine lv_iload_n jx jb d_Mod_count_11 rfl (lv_at jl 2 rfl) ?_
      refine z_if_lt (tgt := 21) jx jb d_Mod_count_12 (by decide) ⟨by omega, by omega⟩ (fun hc12 => ?_) (fun hc12 => ?_)
      ·
        refine lv_iconst (v := iZ 0) jx jb d_Mod_count_21 rfl ?_
        exact jret _ _ _ (xc) _ _ (Or.inr (Or.inl rfl)) (Or.inr ⟨rfl, by omega, rfl⟩) (jP.sub [0, 1] rfl) (jD.sub [0, 1] (by decide) rfl) jS d_Mod_count_22
      ·
        refine lv_iload_n jx jb d_Mod_count_15 rfl (lv_at jl 2 rfl) ?_
        refine lv_ldc (v := iZ 65535) jx jb jown (jts _ cn_Mod_45) d_Mod_count_16 ?_
        refine z_icmp_le (tgt := 23) jx jb d_Mod_count_18 (by decide) ⟨⟨by omega, by omega⟩, ⟨by decide, by decide⟩⟩ (fun hc18 => ?_) (fun hc18 => ?_)
        ·
          refine lv_aload_n jx jb d_Mod_count_23 rfl (lv_at jl 0 rfl) ?_
          refine va_get (D := D) (ci := 4) (v := .ref rc) (C := R_Mod) (T := F_Mod) (N := 14) jx jb jts i_Mod jown jK.1 jP 0 rfl rfl 5 (by decide) (jts _ fl_Mod_16) (fun _ h9 => h9) rfl d_Mod_count_24 ?_
          refine lv_iload_n jx jb d_Mod_count_27 rfl (lv_at jl 1 rfl) ?_
          refine lv_iload_n jx jb d_Mod_count_28 rfl (lv_at jl 2 rfl) ?_
          refine z_iast jx jb jK.1 jP jD jS 1 0 rfl rfl x.toNat (by omega) d_Mod_count_29 (fun H locs jP jD jS => ?_)
          have jP : va_P D classes [(r, .inr (4, [.ref ri, .int (iZ iL), .int (iZ go), .ref ro, .int (iZ oL), .ref rc, .int (iZ (o : Int)), .ref rp, .ref rs, .ref rd, .ref rk, .ref rh, .int (iZ bP), .int (iZ bR)])), (rc, .inl (cI, 256, .inl (zA (zu xc x.toNat y))))] H := jP
          have jD : va_D A [(r, .inr (4, [.ref ri, .int (iZ iL), .int (iZ go), .ref ro, .int (iZ oL), .ref rc, .int (iZ (o : Int)), .ref rp, .ref rs, .ref rd, .ref rk, .ref rh, .int (iZ bP), .int (iZ bR)])), (rc, .inl (cI, 256, .inl (zA (zu xc x.toNat y))))] := jD
          refine lv_iconst (v := iZ 1) jx jb d_Mod_count_30 rfl ?_
          exact jret _ _ _ ((zu xc x.toNat y)) _ _ (Or.inr (Or.inr rfl)) (Or.inl ⟨rfl, by omega, rfl⟩) (jP.sub [0, 1] rfl) (jD.sub [0, 1] (by decide) rfl) jS d_Mod_count_31
        ·
          refine lv_iconst (v := iZ 0) jx jb d_Mod_count_21 rfl ?_
          exact jret _ _ _ (xc) _ _ (Or.inr (Or.inl rfl)) (Or.inr ⟨rfl, by omega, rfl⟩) (jP.sub [0, 1] rfl) (jD.sub [0, 1] (by decide) rfl) jS d_Mod_count_22
abbrev rm_M_points : Room := { frames := 0, cells := 0, slots := 0, locals := 0 }
set_option maxHeartbeats 4000000 in
set_option maxRecDepth 100000 in
theorem c_M_points (l : Launch) (D : va_G) (cI cB cZ : ClassId) (r : Nat) (ri : Nat) (ro : Nat) (rc : Nat) (rp : Nat) (rs : Nat) (rd : Nat) (rk : Nat) (rh : Nat) (iL : Int) (go : Int) (oL : Int) (o : Nat) (bP : Int) (bR : Int) (xp : Nat → Int) (x : Int) (ho : o ≤ 12) (hx1 : -2147483648 ≤ x ∧ x < 2147483648) : Met l y_Mod_points (.code y_Mod_points b_Mod_points 2 (some .int) :: zT) rm_M_points (zRc D classes (TY cI cB cZ) [(r, .inr (4, [.ref ri, .int (iZ iL), .int (iZ go), .ref ro, .int (iZ oL), .ref rc, .int (iZ (o : Int)), .ref rp, .ref rs, .ref rd, .ref rk, .ref rh, .int (iZ bP), .int (iZ bR)])), (rp, .inl (cI, 256, .inl (zA xp)))] [.ref r, .int (iZ x)]) (zSi (fun z => z = if 0 < o ∧ 0 ≤ x ∧ x < 256 then xp x.toNat else -2)) 0 0 (fun _ => False) := by
  refine z_ofr (by decide) (Nat.le_of_ble_eq_true rfl) (Or.inl rfl) ?_
  intro p e s m args below meth c Q E jP jK jret ls jl
  obtain ⟨jx, jb, jrt, jml, jown, jts, jlk⟩ := E
  have jown : s.vm.findClass R_Mod = some m.cls := jown
  have jl : lv_has ls 2 [(0, .ref r), (1, .int (iZ x))] := jl
  refine lv_aload_n jx jb d_Mod_points_0 rfl (lv_at jl 0 rfl) ?_
  refine va_get (D := D) (ci := 4) (v := .int (iZ (o : Int))) (C := R_Mod) (T := F_Mod) (N := 14) jx jb jts i_Mod jown jK.1 jP 0 rfl rfl 6 (by decide) (jts _ fl_Mod_50) (fun _ h9 => h9) rfl d_Mod_points_1 ?_
  refine z_if_eq (tgt := 18) jx jb d_Mod_points_4 (by decide) ⟨by omega, by omega⟩ (fun hc4 => ?_) (fun hc4 => ?_)
  ·
    refine lv_bipush (v := iZ (-2)) jx jb d_Mod_points_18 (by decide) ?_
    refine lv_goto (tgt := 29) jx jb d_Mod_points_20 (by decide) ?_
    exact jret _ _ _ (Or.inl rfl) (by first | exact (if_pos (by omega)).symm | exact (if_neg (by omega)).symm) d_Mod_points_29
  ·
    refine lv_iload_n jx jb d_Mod_points_7 rfl (lv_at jl 1 rfl) ?_
    refine z_if_lt (tgt := 18) jx jb d_Mod_points_8 (by decide) ⟨by omega, by omega⟩ (fun hc8 => ?_) (fun hc8 => ?_)
    ·
      refine lv_bipush (v := iZ (-2)) jx jb d_Mod_points_18 (by decide) ?_
      refine lv_goto (tgt := 29) jx jb d_Mod_points_20 (by decide) ?_
      exact jret _ _ _ (Or.inl rfl) (by first | exact (if_pos (by omega)).symm | exact (if_neg (by omega)).symm) d_Mod_points_29
    ·
      refine lv_iload_n jx jb d_Mod_points_11 rfl (lv_at jl 1 rfl) ?_
      refine lv_sipush (v := iZ 256) jx jb d_Mod_points_12 (by decide) ?_
      refine z_icmp_lt (tgt := 23) jx jb d_Mod_points_15 (by decide) ⟨⟨by omega, by omega⟩, ⟨by decide, by decide⟩⟩ (fun hc15 => ?_) (fun hc15 => ?_)
      ·
        refine lv_aload_n jx jb d_Mod_points_23 rfl (lv_at jl 0 rfl) ?_
        refine va_get (D := D) (ci := 4) (v := .ref rp) (C := R_Mod) (T := F_Mod) (N := 14) jx jb jts i_Mod jown jK.1 jP 0 rfl rfl 7 (by decide) (jts _ fl_Mod_19) (fun _ h9 => h9) rfl d_Mod_points_24 ?_
        refine lv_iload_n jx jb d_Mod_points_27 rfl (lv_at jl 1 rfl) ?_
        refine z_iald jx jb jK.1 jP 1 0 rfl rfl x.toNat (by omega) d_Mod_points_28 ?_
        exact jret _ _ _ (Or.inl rfl) (by first | exact (if_pos (by omega)).symm | exact (if_neg (by omega)).symm) d_Mod_points_29
      ·
        refine lv_bipush (v := iZ (-2)) jx jb d_Mod_points_18 (by decide) ?_
        refine lv_goto (tgt := 29) jx jb d_Mod_points_20 (by decide) ?_
        exact jret _ _ _ (Or.inl rfl) (by first | exact (if_pos (by omega)).symm | exact (if_neg (by omega)).symm) d_Mod_points_29
abbrev rm_M_last : Room := { frames := 0, cells := 0, slots := 0, locals := 0 }
set_option maxHeartbeats 4000000 in
set_option maxRecDepth 100000 in
theorem c_M_last (l : Launch) (D : va_G) (cI cB cZ : ClassId) (r : Nat) (ri : Nat) (ro : Nat) (rc : Nat) (rp : Nat) (rs : Nat) (rd : Nat) (rk : Nat) (rh : Nat) (iL : Int) (go : Int) (oL : Int) (o : Nat) (bP : Int) (bR : Int) (xp : Nat → Int) (hpr : ∀ k, k < 256 → -1 ≤ xp k ∧ xp k ≤ 65536) : Met l y_Mod_last (.code y_Mod_last b_Mod_last 3 (some .int) :: zT) rm_M_last (zRc D classes (TY cI cB cZ) [(r, .inr (4, [.ref ri, .int (iZ iL), .int (iZ go), .ref ro, .int (iZ oL), .ref rc, .int (iZ (o : Int)), .ref rp, .ref rs, .ref rd, .ref rk, .ref rh, .int (iZ bP), .int (iZ bR)])), (rp, .inl (cI, 256, .inl (zA xp)))] [.ref r]) (zSi (fun z => (z = -1 ∧ ∀ k, k < 256 → xp k = 0) ∨ ∃ n : Nat, z = (n : Int) ∧ n ≤ 255 ∧ xp n ≠ 0 ∧ ∀ k, n < k → k ≤ 255 → xp k = 0)) 0 0 (fun _ => False) := by
  refine z_ofr (by decide) (Nat.le_of_ble_eq_true rfl) (Or.inl rfl) ?_
  intro p e s m args below meth c Q E jP jK jret ls jl
  obtain ⟨jx, jb, jrt, jml, jown, jts, jlk⟩ := E
  have jown : s.vm.findClass R_Mod = some m.cls := jown
  have jl : lv_has ls 3 [(0, .ref r)] := jl
  refine lv_iconst (v := iZ (-1)) jx jb d_Mod_last_0 rfl ?_
  refine lv_istore_n (lv' := [(1, .int (iZ (-1))), (0, .ref r)]) jx jb d_Mod_last_1 rfl jl (by decide) rfl (fun ls jl => ?_)
  refine lv_iconst (v := iZ 0) jx jb d_Mod_last_2 rfl ?_
  refine lv_istore_n (lv' := [(2, .int (iZ 0)), (1, .int (iZ (-1))), (0, .ref r)]) jx jb d_Mod_last_3 rfl jl (by decide) rfl (fun ls jl => ?_)
  have hloop4 : ∀ (nF : Nat) (i : Nat) (v : Int), 256 - i < nF → (i ≤ 256) → (lastI xp i v) → ∀ ls : Array Slot, lv_has ls 3 [(0, .ref r), (1, .int (iZ v)), (2, .int (iZ (i : Int)))] → W p l e rm_M_last s m args below meth c s.heap [] 0 0 Q (F0 m 4 ls []) := by
    intro nF
    induction nF with
    | zero => intro i v hm; exact absurd hm (Nat.not_lt_zero _)
    | succ nF ih4 =>
      intro i v hm hi hv ls jl
      refine lv_iload_n jx jb d_Mod_last_4 rfl (lv_at jl 2 rfl) ?_
      refine lv_sipush (v := iZ 256) jx jb d_Mod_last_5 (by decide) ?_
      refine z_icmp_ge (tgt := 28) jx jb d_Mod_last_8 (by decide) ⟨⟨by omega, by omega⟩, ⟨by decide, by decide⟩⟩ (fun hc8 => ?_) (fun hc8 => ?_)
      ·
        refine lv_iload_n jx jb d_Mod_last_28 rfl (lv_at jl 1 rfl) ?_
        exact jret _ _ _ (Or.inl rfl) (last_e hv (by omega)) d_Mod_last_29
      ·
        refine lv_aload_n jx jb d_Mod_last_11 rfl (lv_at jl 0 rfl) ?_
        refine va_get (D := D) (ci := 4) (v := .ref rp) (C := R_Mod) (T := F_Mod) (N := 14) jx jb jts i_Mod jown jK.1 jP 0 rfl rfl 7 (by decide) (jts _ fl_Mod_19) (fun _ h9 => h9) rfl d_Mod_last_12 ?_
        refine lv_iload_n jx jb d_Mod_last_15 rfl (lv_at jl 2 rfl) ?_
        refine z_iald jx jb jK.1 jP 1 0 rfl rfl i (by omega) d_Mod_last_16 ?_
        have hpi := hpr i (by omega)
        refine z_if_eq (tgt := 22) jx jb d_Mod_last_17 (by decide) ⟨by omega, by omega⟩ (fun hc17 => ?_) (fun hc17 => ?_)
        ·
          refine lv_iinc (v := iZ ((i : Int) + 1)) (lv' := [(2, .int (iZ ((i : Int) + 1))), (0, .ref r), (1, .int (iZ v))]) jx jb d_Mod_last_22 jl (k := 2) rfl (iZ_add _ _) (by decide) rfl (fun ls jl => ?_)
          refine lv_goto (tgt := 4) jx jb d_Mod_last_25 (by decide) ?_
          exact ih4 (i + 1) v (by omega) (by first | assumption | omega) (by first | exact last_n hv hc17 | exact last_z hv hc17) _ (lv_sub jl [1, 2, 0] rfl)
        ·
          refine lv_iload_n jx jb d_Mod_last_20 rfl (lv_at jl 2 rfl) ?_
          refine lv_istore_n (lv' := [(1, .int (iZ (i : Int))), (0, .ref r), (2, .int (iZ (i : Int)))]) jx jb d_Mod_last_21 rfl jl (by decide) rfl (fun ls jl => ?_)
          refine lv_iinc (v := iZ ((i : Int) + 1)) (lv' := [(2, .int (iZ ((i : Int) + 1))), (1, .int (iZ (i : Int))), (0, .ref r)]) jx jb d_Mod_last_22 jl (k := 2) rfl (iZ_add _ _) (by decide) rfl (fun ls jl => ?_)
          refine lv_goto (tgt := 4) jx jb d_Mod_last_25 (by decide) ?_
          exact ih4 (i + 1) (i : Int) (by omega) (by first | assumption | omega) (by first | exact last_n hv hc17 | exact last_z hv hc17) _ (lv_sub jl [2, 1, 0] rfl)
  exact hloop4 ((256 - 0) + 1) 0 (-1) (Nat.lt_succ_self _) (by first | assumption | omega) (Or.inl ⟨rfl, fun k h => absurd h (by omega)⟩) _ (lv_sub jl [2, 1, 0] rfl)
abbrev rm_M_about : Room := { frames := 1, cells := 0, slots := 0, locals := 22 }
set_option maxHeartbeats 4000000 in
set_option maxRecDepth 100000 in
theorem c_M_about (l : Launch) (D : va_G) (cI cB cZ : ClassId) (r : Nat) (ri : Nat) (ro : Nat) (rc : Nat) (rp : Nat) (rs : Nat) (rd : Nat) (rk : Nat) (rh : Nat) (iL : Int) (go : Int) (oL : Int) (o : Nat) (bP : Int) (bR : Int) (xp : Nat → Int) (x : Int) (ho : o ≤ 12) (hpr : ∀ k, k < 256 → -1 ≤ xp k ∧ xp k ≤ 65536) (hx1 : -2147483648 ≤ x ∧ x < 2147483648) : Met l y_Mod_about (.code y_Mod_about b_Mod_about 2 (some .int) :: zT) rm_M_about (zRc D classes (TY cI cB cZ) [(r, .inr (4, [.ref ri, .int (iZ iL), .int (iZ go), .ref ro, .int (iZ oL), .ref rc, .int (iZ (o : Int)), .ref rp, .ref rs, .ref rd, .ref rk, .ref rh, .int (iZ bP), .int (iZ bR)])), (rp, .inl (cI, 256, .inl (zA xp)))] [.ref r, .int (iZ x)]) (zSi (fun z => (o = 0 ∧ z = -1) ∨ (0 < o ∧ x = 0 ∧ z = (o : Int)) ∨ (0 < o ∧ x = 1 ∧ ((z = -1 ∧ ∀ k, k < 256 → xp k = 0) ∨ ∃ n : Nat, z = (n : Int) ∧ n ≤ 255 ∧ xp n ≠ 0 ∧ ∀ k, n < k → k ≤ 255 → xp k = 0)) ∨ (0 < o ∧ x ≠ 0 ∧ x ≠ 1 ∧ z = -1))) 0 0 (fun _ => False) := by
  refine z_ofr (by decide) (Nat.le_of_ble_eq_true rfl) (Or.inl rfl) ?_
  intro p e s m args below meth c Q E jP jK jret ls jl
  obtain ⟨jx, jb, jrt, jml, jown, jts, jlk⟩ := E
  have jown : s.vm.findClass R_Mod = some m.cls := jown
  have jl : lv_has ls 2 [(0, .ref r), (1, .int (iZ x))] := jl
  refine lv_aload_n jx jb d_Mod_about_0 rfl (lv_at jl 0 rfl) ?_
  refine va_get (D := D) (ci := 4) (v := .int (iZ (o : Int))) (C := R_Mod) (T := F_Mod) (N := 14) jx jb jts i_Mod jown jK.1 jP 0 rfl rfl 6 (by decide) (jts _ fl_Mod_50) (fun _ h9 => h9) rfl d_Mod_about_1 ?_
  refine z_if_ne (tgt := 11) jx jb d_Mod_about_4 (by decide) ⟨by omega, by omega⟩ (fun hc4 => ?_) (fun hc4 => ?_)
  ·
    have ho1 : 0 < o := by omega
    refine lv_iload_n jx jb d_Mod_about_11 rfl (lv_at jl 1 rfl) ?_
    refine z_if_ne (tgt := 22) jx jb d_Mod_about_12 (by decide) ⟨by omega, by omega⟩ (fun hc12 => ?_) (fun hc12 => ?_)
    ·
      refine lv_iload_n jx jb d_Mod_about_22 rfl (lv_at jl 1 rfl) ?_
      refine lv_iconst (v := iZ 1) jx jb d_Mod_about_23 rfl ?_
      refine z_icmp_ne (tgt := 34) jx jb d_Mod_about_24 (by decide) ⟨⟨by omega, by omega⟩, ⟨by decide, by decide⟩⟩ (fun hc24 => ?_) (fun hc24 => ?_)
      ·
        refine lv_iconst (v := iZ (-1)) jx jb d_Mod_about_34 rfl ?_
        exact jret _ _ _ (Or.inl rfl) (by first | exact Or.inr (Or.inr (Or.inl ⟨ho1, hc24, hq28⟩)) | exact Or.inl ⟨by omega, rfl⟩ | exact Or.inr (Or.inl ⟨by omega, by omega, rfl⟩) | exact Or.inr (Or.inr (Or.inr ⟨by omega, by omega, by omega, rfl⟩))) d_Mod_about_35
      ·
        refine lv_aload_n jx jb d_Mod_about_27 rfl (lv_at jl 0 rfl) ?_
        refine z_backr (va_runV (As := []) (rest := []) ⟨jx, jb, jml, jown, jts⟩ (c_M_last l D cI cB cZ r ri ro rc rp rs rd rk rh iL go oL o bP bR xp (by first | assumption | omega)) (zc_V 0 jts cd_Mod_last lk_Mod_109 im_Mod_last se_Mod_last in_Mod hd_Mod_last ⟨Nat.le_of_ble_eq_true rfl, Nat.le_of_ble_eq_true rfl⟩ rfl rfl) (z_preVR jK jP [0, 1] rfl rfl rfl) rfl rfl jl.1 rfl (lv_room (Nat.le_of_ble_eq_true rfl)) d_Mod_about_28 ⟨Nat.le_of_ble_eq_true rfl, Nat.le_of_ble_eq_true rfl⟩) (fun z28 hz28 => ?_)
        have hq28 := hz28
        refine lv_goto (tgt := 35) jx jb d_Mod_about_31 (by decide) ?_
        exact jret _ _ _ (Or.inl rfl) (by first | exact Or.inr (Or.inr (Or.inl ⟨ho1, hc24, hq28⟩)) | exact Or.inl ⟨by omega, rfl⟩ | exact Or.inr (Or.inl ⟨by omega, by omega, rfl⟩) | exact Or.inr (Or.inr (Or.inr ⟨by omega, by omega, by omega, rfl⟩))) d_Mod_about_35
    ·
      refine lv_aload_n jx jb d_Mod_about_15 rfl (lv_at jl 0 rfl) ?_
      refine va_get (D := D) (ci := 4) (v := .int (iZ (o : Int))) (C := R_Mod) (T := F_Mod) (N := 14) jx jb jts i_Mod jown jK.1 jP 0 rfl rfl 6 (by decide) (jts _ fl_Mod_50) (fun _ h9 => h9) rfl d_Mod_about_16 ?_
      refine lv_goto (tgt := 35) jx jb d_Mod_about_19 (by decide) ?_
      exact jret _ _ _ (Or.inl rfl) (by first | exact Or.inr (Or.inr (Or.inl ⟨ho1, hc24, hq28⟩)) | exact Or.inl ⟨by omega, rfl⟩ | exact Or.inr (Or.inl ⟨by omega, by omega, rfl⟩) | exact Or.inr (Or.inr (Or.inr ⟨by omega, by omega, by omega, rfl⟩))) d_Mod_about_35
  ·
    refine lv_iconst (v := iZ (-1)) jx jb d_Mod_about_7 rfl ?_
    refine lv_goto (tgt := 35) jx jb d_Mod_about_8 (by decide) ?_
    exact jret _ _ _ (Or.inl rfl) (by first | exact Or.inr (Or.inr (Or.inl ⟨ho1, hc24, hq28⟩)) | exact Or.inl ⟨by omega, rfl⟩ | exact Or.inr (Or.inl ⟨by omega, by omega, rfl⟩) | exact Or.inr (Or.inr (Or.inr ⟨by omega, by omega, by omega, rfl⟩))) d_Mod_about_35
abbrev rm_M_bitsFor : Room := { frames := 0, cells := 0, slots := 0, locals := 0 }
set_option maxHeartbeats 4000000 in
set_option maxRecDepth 100000 in
theorem c_M_bitsFor (l : Launch) (D : va_G) (cI cB cZ : ClassId) (R1 : Int) (hR : 0 ≤ R1 ∧ R1 ≤ 100000) : Met l y_Mod_bitsFor (.code y_Mod_bitsFor b_Mod_bitsFor 2 (some .int) :: zT) rm_M_bitsFor (zRc D classes (TY cI cB cZ) [] [.int (iZ R1)]) (zSi (fun z => z = (numK R1 : Int))) 0 0 (fun _ => False) := by
  refine z_ofr (by decide) (Nat.le_of_ble_eq_true rfl) (Or.inl rfl) ?_
  intro p e s m args below meth c Q E jP jK jret ls jl
  obtain ⟨jx, jb, jrt, jml, jown, jts, jlk⟩ := E
  have jown : s.vm.findClass R_Mod = some m.cls := jown
  have jl : lv_has ls 2 [(0, .int (iZ R1))] := jl
  refine lv_iconst (v := iZ 0) jx jb d_Mod_bitsFor_0 rfl ?_
  refine lv_istore_n (lv' := [(1, .int (iZ 0)), (0, .int (iZ R1))]) jx jb d_Mod_bitsFor_1 rfl jl (by decide) rfl (fun ls jl => ?_)
  have hloop2 : ∀ (nF : Nat) (k : Nat), 17 - k < nF → ((2 : Int) ^ k ≤ R1 + 1) → ∀ ls : Array Slot, lv_has ls 2 [(0, .int (iZ R1)), (1, .int (iZ (k : Int)))] → W p l e rm_M_bitsFor s m args below meth c s.heap [] 0 0 Q (F0 m 2 ls []) := by
    intro nF
    induction nF with
    | zero => intro k hm; exact absurd hm (Nat.not_lt_zero _)
    | succ nF ih2 =>
      intro k hm h1 ls jl
      have hk17 : k < 17 := p2_lt h1 (by omega)
      have hps := p2_s k
      have hp0 := p2_pos k
      refine lv_iconst (v := iZ 1) jx jb d_Mod_bitsFor_2 rfl ?_
      refine lv_iload_n jx jb d_Mod_bitsFor_3 rfl (lv_at jl 1 rfl) ?_
      refine lv_iconst (v := iZ 1) jx jb d_Mod_bitsFor_4 rfl ?_
      refine z_iadd jx jb d_Mod_bitsFor_5 ?_
      refine z_ishl jx jb d_Mod_bitsFor_6 (k + 1) (2 ^ (k + 1)) (rfl) (by omega) ?_
      refine z_top (2 ^ (k + 1)) (Int.one_mul _) ?_
      refine lv_iload_n jx jb d_Mod_bitsFor_7 rfl (lv_at jl 0 rfl) ?_
      refine lv_iconst (v := iZ 1) jx jb d_Mod_bitsFor_8 rfl ?_
      refine z_iadd jx jb d_Mod_bitsFor_9 ?_
      refine z_icmp_gt (tgt := 19) jx jb d_Mod_bitsFor_10 (by decide) ⟨⟨by omega, by omega⟩, ⟨by omega, by omega⟩⟩ (fun hc10 => ?_) (fun hc10 => ?_)
      ·
        refine lv_iload_n jx jb d_Mod_bitsFor_19 rfl (lv_at jl 1 rfl) ?_
        exact jret _ _ _ (Or.inl rfl) (by rw [show numK R1 = k from zlog_is h1 (by omega)]) d_Mod_bitsFor_20
      ·
        refine lv_iinc (v := iZ ((k : Int) + 1)) (lv' := [(1, .int (iZ ((k : Int) + 1))), (0, .int (iZ R1))]) jx jb d_Mod_bitsFor_13 jl (k := 1) rfl (iZ_add _ _) (by decide) rfl (fun ls jl => ?_)
        refine lv_goto (tgt := 2) jx jb d_Mod_bitsFor_16 (by decide) ?_
        exact ih2 (k + 1) (by omega) (by first | assumption | omega) _ (lv_sub jl [1, 0] rfl)
  exact hloop2 ((17 - 0) + 1) 0 (Nat.lt_succ_self _) (by rw [Int.pow_zero]; omega) _ (lv_sub jl [1, 0] rfl)
abbrev rm_M_bitsOf : Room := { frames := 0, cells := 0, slots := 0, locals := 0 }
set_option maxHeartbeats 4000000 in
set_option maxRecDepth 100000 in
theorem c_M_bitsOf (l : Launch) (D : va_G) (cI cB cZ : ClassId) (r : Nat) (ri : Nat) (ro : Nat) (rc : Nat) (rp : Nat) (rs : Nat) (rd : Nat) (rk : Nat) (rh : Nat) (iL : Int) (go : Int) (oL : Int) (o : Nat) (bP : Int) (bR : Int) (x : Int) (ho : o ≤ 12) (hx1 : 1 ≤ x ∧ x ≤ 100000) : Met l y_Mod_bitsOf (.code y_Mod_bitsOf b_Mod_bitsOf 3 (some .int) :: zT) rm_M_bitsOf (zRc D classes (TY cI cB cZ) [(r, .inr (4, [.ref ri, .int (iZ iL), .int (iZ go), .ref ro, .int (iZ oL), .ref rc, .int (iZ (o : Int)), .ref rp, .ref rs, .ref rd, .ref rk, .ref rh, .int (iZ bP), .int (iZ bR)]))] [.ref r, .int (iZ x)]) (zSi (fun z => z = (o : Int) - (zlog x : Int))) 0 0 (fun _ => False) := by
  refine z_ofr (by decide) (Nat.le_of_ble_eq_true rfl) (Or.inl rfl) ?_
  intro p e s m args below meth c Q E jP jK jret ls jl
  obtain ⟨jx, jb, jrt, jml, jown, jts, jlk⟩ := E
  have jown : s.vm.findClass R_Mod = some m.cls := jown
  have jl : lv_has ls 3 [(0, .ref r), (1, .int (iZ x))] := jl
  refine lv_iconst (v := iZ 0) jx jb d_Mod_bitsOf_0 rfl ?_
  refine lv_istore_n (lv' := [(2, .int (iZ 0)), (0, .ref r), (1, .int (iZ x))]) jx jb d_Mod_bitsOf_1 rfl jl (by decide) rfl (fun ls jl => ?_)
  have hloop2 : ∀ (nF : Nat) (k : Nat), 17 - k < nF → ((2 : Int) ^ k ≤ x) → ∀ ls : Array Slot, lv_has ls 3 [(0, .ref r), (1, .int (iZ x)), (2, .int (iZ (k : Int)))] → W p l e rm_M_bitsOf s m args below meth c s.heap [] 0 0 Q (F0 m 2 ls []) := by
    intro nF
    induction nF with
    | zero => intro k hm; exact absurd hm (Nat.not_lt_zero _)
    | succ nF ih2 =>
      intro k hm h1 ls jl
      have hk17 : k < 17 := p2_lt h1 (by omega)
      have hps := p2_s k
      have hp0 := p2_pos k
      refine lv_iconst (v := iZ 1) jx jb d_Mod_bitsOf_2 rfl ?_
      refine lv_iload_n jx jb d_Mod_bitsOf_3 rfl (lv_at jl 2 rfl) ?_
      refine lv_iconst (v := iZ 1) jx jb d_Mod_bitsOf_4 rfl ?_
      refine z_iadd jx jb d_Mod_bitsOf_5 ?_
      refine z_ishl jx jb d_Mod_bitsOf_6 (k + 1) (2 ^ (k + 1)) (rfl) (by omega) ?_
      refine z_top (2 ^ (k + 1)) (Int.one_mul _) ?_
      refine lv_iload_n jx jb d_Mod_bitsOf_7 rfl (lv_at jl 1 rfl) ?_
      refine z_icmp_gt (tgt := 17) jx jb d_Mod_bitsOf_8 (by decide) ⟨⟨by omega, by omega⟩, ⟨by omega, by omega⟩⟩ (fun hc8 => ?_) (fun hc8 => ?_)
      ·
        refine lv_aload_n jx jb d_Mod_bitsOf_17 rfl (lv_at jl 0 rfl) ?_
        refine va_get (D := D) (ci := 4) (v := .int (iZ (o : Int))) (C := R_Mod) (T := F_Mod) (N := 14) jx jb jts i_Mod jown jK.1 jP 0 rfl rfl 6 (by decide) (jts _ fl_Mod_50) (fun _ h9 => h9) rfl d_Mod_bitsOf_18 ?_
        refine lv_iload_n jx jb d_Mod_bitsOf_21 rfl (lv_at jl 2 rfl) ?_
        refine z_isub jx jb d_Mod_bitsOf_22 ?_
        exact jret _ _ _ (Or.inl rfl) (by rw [zlog_is h1 (by omega)]) d_Mod_bitsOf_23
      ·
        refine lv_iinc (v := iZ ((k : Int) + 1)) (lv' := [(2, .int (iZ ((k : Int) + 1))), (0, .ref r), (1, .int (iZ x))]) jx jb d_Mod_bitsOf_11 jl (k := 2) rfl (iZ_add _ _) (by decide) rfl (fun ls jl => ?_)
        refine lv_goto (tgt := 2) jx jb d_Mod_bitsOf_14 (by decide) ?_
        exact ih2 (k + 1) (by omega) (by first | assumption | omega) _ (lv_sub jl [1, 2, 0] rfl)
  exact hloop2 ((17 - 0) + 1) 0 (Nat.lt_succ_self _) (by rw [Int.pow_zero]; omega) _ (lv_sub jl [1, 2, 0] rfl)
abbrev rm_M_baseOf : Room := { frames := 1, cells := 0, slots := 0, locals := 22 }
set_option maxHeartbeats 4000000 in
set_option maxRecDepth 100000 in
theorem c_M_baseOf (l : Launch) (D : va_G) (cI cB cZ : ClassId) (r : Nat) (ri : Nat) (ro : Nat) (rc : Nat) (rp : Nat) (rs : Nat) (rd : Nat) (rk : Nat) (rh : Nat) (iL : Int) (go : Int) (oL : Int) (o : Nat) (bP : Int) (bR : Int) (x : Int) (ho : o ≤ 12) (hx1 : 1 ≤ x ∧ x < 2 ^ (o + 1)) : Met l y_Mod_baseOf (.code y_Mod_baseOf b_Mod_baseOf 2 (some .int) :: zT) rm_M_baseOf (zRc D classes (TY cI cB cZ) [(r, .inr (4, [.ref ri, .int (iZ iL), .int (iZ go), .ref ro, .int (iZ oL), .ref rc, .int (iZ (o : Int)), .ref rp, .ref rs, .ref rd, .ref rk, .ref rh, .int (iZ bP), .int (iZ bR)]))] [.ref r, .int (iZ x)]) (zSi (fun z => z = x * 2 ^ (o - zlog x) - 2 ^ o)) 0 0 (fun _ => False) := by
  refine z_ofr (by decide) (Nat.le_of_ble_eq_true rfl) (Or.inl rfl) ?_
  intro p e s m args below meth c Q E jP jK jret ls jl
  obtain ⟨jx, jb, jrt, jml, jown, jts, jlk⟩ := E
  have jown : s.vm.findClass R_Mod = some m.cls := jown
  have hzl := zlog_le hx1.1 hx1.2
  have hp13 := p2_le (show o + 1 ≤ 13 by omega)
  have jl : lv_has ls 2 [(0, .ref r), (1, .int (iZ x))] := jl
  refine lv_iload_n jx jb d_Mod_baseOf_0 rfl (lv_at jl 1 rfl) ?_
  refine lv_aload_n jx jb d_Mod_baseOf_1 rfl (lv_at jl 0 rfl) ?_
  refine lv_iload_n jx jb d_Mod_baseOf_2 rfl (lv_at jl 1 rfl) ?_
  refine z_backe (va_runV (As := [.int (iZ x)]) (rest := [.int (iZ x)]) ⟨jx, jb, jml, jown, jts⟩ (c_M_bitsOf l D cI cB cZ r ri ro rc rp rs rd rk rh iL go oL o bP bR x (by first | assumption | omega) (by first | assumption | omega)) (zc_V 1 jts cd_Mod_bitsOf lk_Mod_112 im_Mod_bitsOf se_Mod_bitsOf in_Mod hd_Mod_bitsOf ⟨Nat.le_of_ble_eq_true rfl, Nat.le_of_ble_eq_true rfl⟩ rfl rfl) (z_preVR jK jP [0] rfl rfl rfl) rfl rfl jl.1 rfl (lv_room (Nat.le_of_ble_eq_true rfl)) d_Mod_baseOf_3 ⟨Nat.le_of_ble_eq_true rfl, Nat.le_of_ble_eq_true rfl⟩) ?_
  refine z_top ((o - zlog x : Nat) : Int) (by omega) ?_
  refine z_ishl jx jb d_Mod_baseOf_6 (o - zlog x : Nat) (2 ^ (o - zlog x : Nat)) (rfl) (by omega) ?_
  refine lv_iconst (v := iZ 1) jx jb d_Mod_baseOf_7 rfl ?_
  refine lv_aload_n jx jb d_Mod_baseOf_8 rfl (lv_at jl 0 rfl) ?_
  refine va_get (D := D) (ci := 4) (v := .int (iZ (o : Int))) (C := R_Mod) (T := F_Mod) (N := 14) jx jb jts i_Mod jown jK.1 jP 0 rfl rfl 6 (by decide) (jts _ fl_Mod_50) (fun _ h9 => h9) rfl d_Mod_baseOf_9 ?_
  refine z_ishl jx jb d_Mod_baseOf_12 o (2 ^ o) (rfl) (by omega) ?_
  refine z_top (2 ^ o) (Int.one_mul _) ?_
  refine z_isub jx jb d_Mod_baseOf_13 ?_
  exact jret _ _ _ (Or.inl rfl) (rfl) d_Mod_baseOf_14
abbrev rm_M_numberOf : Room := { frames := 1, cells := 0, slots := 0, locals := 20 }
set_option maxHeartbeats 4000000 in
set_option maxRecDepth 100000 in
theorem c_M_numberOf (l : Launch) (D : va_G) (cI cB cZ : ClassId) (r : Nat) (ri : Nat) (ro : Nat) (rc : Nat) (rp : Nat) (rs : Nat) (rd : Nat) (rk : Nat) (rh : Nat) (iL : Int) (go : Int) (oL : Int) (o : Nat) (bP : Int) (bR : Int) (xp : Nat → Int) (xs : Nat → Int) (k : Nat) (hpr : ∀ k, k < 256 → -1 ≤ xp k ∧ xp k ≤ 65536) (hxs : ∀ k, k < 4096 → 0 ≤ xs k ∧ xs k < 256) (hk : k < 4096) : Met l y_Mod_numberOf (.code y_Mod_numberOf b_Mod_numberOf 4 (some .int) :: zT) rm_M_numberOf (zRc D classes (TY cI cB cZ) [(r, .inr (4, [.ref ri, .int (iZ iL), .int (iZ go), .ref ro, .int (iZ oL), .ref rc, .int (iZ (o : Int)), .ref rp, .ref rs, .ref rd, .ref rk, .ref rh, .int (iZ bP), .int (iZ bR)])), (rp, .inl (cI, 256, .inl (zA xp))), (rs, .inl (cI, 4096, .inl (zA xs)))] [.ref r, .int (iZ (k : Int))]) (zSi (fun z => z = wgt (xp (xs k).toNat) + cntS xs (xs k) k)) 0 0 (fun _ => False) := by
  refine z_ofr (by decide) (Nat.le_of_ble_eq_true rfl) (Or.inl rfl) ?_
  intro p e s m args below meth c Q E jP jK jret ls jl
  obtain ⟨jx, jb, jrt, jml, jown, jts, jlk⟩ := E
  have jown : s.vm.findClass R_Mod = some m.cls := jown
  have hs0 := hxs k hk
  have hp0 := hpr (xs k).toNat (by omega)
  have jl : lv_has ls 4 [(0, .ref r), (1, .int (iZ (k : Int)))] := jl
  refine lv_aload_n jx jb d_Mod_numberOf_0 rfl (lv_at jl 0 rfl) ?_
  refine va_get (D := D) (ci := 4) (v := .ref rp) (C := R_Mod) (T := F_Mod) (N := 14) jx jb jts i_Mod jown jK.1 jP 0 rfl rfl 7 (by decide) (jts _ fl_Mod_19) (fun _ h9 => h9) rfl d_Mod_numberOf_1 ?_
  refine lv_aload_n jx jb d_Mod_numberOf_4 rfl (lv_at jl 0 rfl) ?_
  refine va_get (D := D) (ci := 4) (v := .ref rs) (C := R_Mod) (T := F_Mod) (N := 14) jx jb jts i_Mod jown jK.1 jP 0 rfl rfl 8 (by decide) (jts _ fl_Mod_22) (fun _ h9 => h9) rfl d_Mod_numberOf_5 ?_
  refine lv_iload_n jx jb d_Mod_numberOf_8 rfl (lv_at jl 1 rfl) ?_
  refine z_iald jx jb jK.1 jP 2 0 rfl rfl k (by omega) d_Mod_numberOf_9 ?_
  refine z_iald jx jb jK.1 jP 1 0 rfl rfl ((xs k).toNat) (by omega) d_Mod_numberOf_10 ?_
  refine z_backe (va_runS (As := [.int (iZ (xp ((xs k).toNat)))]) (rest := []) ⟨jx, jb, jml, jown, jts⟩ (c_M_weight l D cI cB cZ (xp ((xs k).toNat)) (by first | assumption | omega)) (zc_S 1 jts cd_Mod_weight lk_Mod_46 st_Mod_weight in_Mod hd_Mod_weight ⟨Nat.le_of_ble_eq_true rfl, Nat.le_of_ble_eq_true rfl⟩ rfl rfl) (z_preSR jK jP [] rfl) rfl rfl jl.1 rfl (lv_room (Nat.le_of_ble_eq_true rfl)) d_Mod_numberOf_11 ⟨Nat.le_of_ble_eq_true rfl, Nat.le_of_ble_eq_true rfl⟩) ?_
  refine z_top (wgt (xp (xs k).toNat) + cntS xs (xs k) 0) ((Int.add_zero _).symm) ?_
  refine lv_istore_n (lv' := [(2, .int (iZ (wgt (xp (xs k).toNat) + cntS xs (xs k) 0))), (0, .ref r), (1, .int (iZ (k : Int)))]) jx jb d_Mod_numberOf_14 rfl jl (by decide) rfl (fun ls jl => ?_)
  refine lv_iconst (v := iZ 0) jx jb d_Mod_numberOf_15 rfl ?_
  refine lv_istore_n (lv' := [(3, .int (iZ 0)), (2, .int (iZ (wgt (xp (xs k).toNat) + cntS xs (xs k) 0))), (0, .ref r), (1, .int (iZ (k : Int)))]) jx jb d_Mod_numberOf_16 rfl jl (by decide) rfl (fun ls jl => ?_)
  have hloop17 : ∀ (nF : Nat) (j : Nat), k - j < nF → (j ≤ k) → ∀ ls : Array Slot, lv_has ls 4 [(0, .ref r), (1, .int (iZ (k : Int))), (2, .int (iZ (wgt (xp (xs k).toNat) + cntS xs (xs k) j))), (3, .int (iZ (j : Int)))] → W p l e rm_M_numberOf s m args below meth c s.heap [] 0 0 Q (F0 m 17 ls []) := by
    intro nF
    induction nF with
    | zero => intro j hm; exact absurd hm (Nat.not_lt_zero _)
    | succ nF ih17 =>
      intro j hm hj ls jl
      refine lv_iload_n jx jb d_Mod_numberOf_17 rfl (lv_at jl 3 rfl) ?_
      refine lv_iload_n jx jb d_Mod_numberOf_18 rfl (lv_at jl 1 rfl) ?_
      refine z_icmp_ge (tgt := 46) jx jb d_Mod_numberOf_19 (by decide) ⟨⟨by omega, by omega⟩, ⟨by omega, by omega⟩⟩ (fun hc19 => ?_) (fun hc19 => ?_)
      ·
        refine lv_iload_n jx jb d_Mod_numberOf_46 rfl (lv_at jl 2 rfl) ?_
        exact jret _ _ _ (Or.inl rfl) (by rw [show j = k by omega]) d_Mod_numberOf_47
      ·
        refine lv_aload_n jx jb d_Mod_numberOf_22 rfl (lv_at jl 0 rfl) ?_
        refine va_get (D := D) (ci := 4) (v := .ref rs) (C := R_Mod) (T := F_Mod) (N := 14) jx jb jts i_Mod jown jK.1 jP 0 rfl rfl 8 (by decide) (jts _ fl_Mod_22) (fun _ h9 => h9) rfl d_Mod_numberOf_23 ?_
        refine lv_iload_n jx jb d_Mod_numberOf_26 rfl (lv_at jl 3 rfl) ?_
        refine z_iald jx jb jK.1 jP 2 0 rfl rfl j (by omega) d_Mod_numberOf_27 ?_
        refine lv_aload_n jx jb d_Mod_numberOf_28 rfl (lv_at jl 0 rfl) ?_
        refine va_get (D := D) (ci := 4) (v := .ref rs) (C := R_Mod) (T := F_Mod) (N := 14) jx jb jts i_Mod jown jK.1 jP 0 rfl rfl 8 (by decide) (jts _ fl_Mod_22) (fun _ h9 => h9) rfl d_Mod_numberOf_29 ?_
        refine lv_iload_n jx jb d_Mod_numberOf_32 rfl (lv_at jl 1 rfl) ?_
        refine z_iald jx jb jK.1 jP 2 0 rfl rfl k (by omega) d_Mod_numberOf_33 ?_
        have hsj := hxs j (by omega)
        refine z_icmp_ne (tgt := 40) jx jb d_Mod_numberOf_34 (by decide) ⟨⟨by omega, by omega⟩, ⟨by omega, by omega⟩⟩ (fun hc34 => ?_) (fun hc34 => ?_)
        ·
          rw [← cntS_n hc34] at jl
          refine lv_iinc (v := iZ ((j : Int) + 1)) (lv' := [(3, .int (iZ ((j : Int) + 1))), (0, .ref r), (1, .int (iZ (k : Int))), (2, .int (iZ (wgt (xp (xs k).toNat) + cntS xs (xs k) (j + 1))))]) jx jb d_Mod_numberOf_40 jl (k := 3) rfl (iZ_add _ _) (by decide) rfl (fun ls jl => ?_)
          refine lv_goto (tgt := 17) jx jb d_Mod_numberOf_43 (by decide) ?_
          exact ih17 (j + 1) (by omega) (by first | assumption | omega) _ (lv_sub jl [1, 2, 3, 0] rfl)
        ·
          refine lv_iinc (v := iZ (wgt (xp (xs k).toNat) + cntS xs (xs k) (j + 1))) (lv' := [(2, .int (iZ (wgt (xp (xs k).toNat) + cntS xs (xs k) (j + 1)))), (0, .ref r), (1, .int (iZ (k : Int))), (3, .int (iZ (j : Int)))]) jx jb d_Mod_numberOf_37 jl (k := 2) rfl (by rw [show (wgt (xp (xs k).toNat) + cntS xs (xs k) (j + 1)) = (wgt (xp (xs k).toNat) + cntS xs (xs k) j) + 1 from by rw [cntS_s hc34]; omega]; exact iZ_add _ _) (by decide) rfl (fun ls jl => ?_)
          refine lv_iinc (v := iZ ((j : Int) + 1)) (lv' := [(3, .int (iZ ((j : Int) + 1))), (2, .int (iZ (wgt (xp (xs k).toNat) + cntS xs (xs k) (j + 1)))), (0, .ref r), (1, .int (iZ (k : Int)))]) jx jb d_Mod_numberOf_40 jl (k := 3) rfl (iZ_add _ _) (by decide) rfl (fun ls jl => ?_)
          refine lv_goto (tgt := 17) jx jb d_Mod_numberOf_43 (by decide) ?_
          exact ih17 (j + 1) (by omega) (by first | assumption | omega) _ (lv_sub jl [2, 3, 1, 0] rfl)
  exact hloop17 ((k - 0) + 1) 0 (Nat.lt_succ_self _) (by first | assumption | omega) _ (lv_sub jl [2, 3, 1, 0] rfl)
