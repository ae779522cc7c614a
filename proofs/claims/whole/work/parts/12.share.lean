theorem fl_Share_33 : Cond.fieldLink R_Share 33 "StateCoder$Share" "order" "I" ∈ zT := zT_of (List.mem_of_getElem? (i := 97) (by decide +kernel)) rfl
theorem cd_Share_exists : Cond.code y_Share_exists b_Share_exists 1 (some .boolean) ∈ zT := zT_of (List.mem_of_getElem? (i := 264) (by decide +kernel)) rfl
theorem in_Share : Cond.initialized R_Share ∈ zT := zT_of (List.mem_of_getElem? (i := 37) (by decide +kernel)) rfl
theorem hd_Share_exists : y_Share_exists.cls ≠ "java/lang/invoke/MethodHandle" ∧ y_Share_exists.cls ≠ "java/lang/invoke/VarHandle" ∧ (parseMethodDescriptor y_Share_exists.desc).map (fun d => d.parameters.length) = some 0 := by decide +kernel
theorem lk_Share_37 : Cond.methodLink R_Share 37 y_Share_exists ∈ zT := zT_of (List.mem_of_getElem? (i := 261) (by decide +kernel)) rfl
theorem im_Share_exists : Cond.instanceMethod y_Share_exists ∈ zT := zT_of (List.mem_of_getElem? (i := 262) (by decide +kernel)) rfl
theorem se_Share_exists : Cond.selects R_Share y_Share_exists y_Share_exists ∈ zT := zT_of (List.mem_of_getElem? (i := 263) (by decide +kernel)) rfl
theorem cd_Share_cells : Cond.code y_Share_cells b_Share_cells 1 (some .int) ∈ zT := zT_of (List.mem_of_getElem? (i := 256) (by decide +kernel)) rfl
theorem hd_Share_cells : y_Share_cells.cls ≠ "java/lang/invoke/MethodHandle" ∧ y_Share_cells.cls ≠ "java/lang/invoke/VarHandle" ∧ (parseMethodDescriptor y_Share_cells.desc).map (fun d => d.parameters.length) = some 0 := by decide +kernel
theorem lk_Share_41 : Cond.methodLink R_Share 41 y_Share_cells ∈ zT := zT_of (List.mem_of_getElem? (i := 253) (by decide +kernel)) rfl
theorem im_Share_cells : Cond.instanceMethod y_Share_cells ∈ zT := zT_of (List.mem_of_getElem? (i := 254) (by decide +kernel)) rfl
theorem se_Share_cells : Cond.selects R_Share y_Share_cells y_Share_cells ∈ zT := zT_of (List.mem_of_getElem? (i := 255) (by decide +kernel)) rfl
theorem cd_SC_isSymbol : Cond.code y_SC_isSymbol b_SC_isSymbol 1 (some .boolean) ∈ zT := zT_of (List.mem_of_getElem? (i := 205) (by decide +kernel)) rfl
theorem in_SC : Cond.initialized R_SC ∈ zT := zT_of (List.mem_of_getElem? (i := 35) (by decide +kernel)) rfl
theorem hd_SC_isSymbol : y_SC_isSymbol.cls ≠ "java/lang/invoke/MethodHandle" ∧ y_SC_isSymbol.cls ≠ "java/lang/invoke/VarHandle" ∧ (parseMethodDescriptor y_SC_isSymbol.desc).map (fun d => d.parameters.length) = some 1 := by decide +kernel
theorem ln_Share_45 : Cond.methodLinkNest R_Share 45 y_SC_isSymbol R_SC ∈ lw_tbl := List.mem_of_getElem? (i := 281) (by decide +kernel)
theorem st_SC_isSymbol : Cond.static y_SC_isSymbol ∈ zT := zT_of (List.mem_of_getElem? (i := 204) (by decide +kernel)) rfl
theorem fl_Share_9 : Cond.fieldLink R_Share 9 "StateCoder$Share" "points" "[I" ∈ zT := zT_of (List.mem_of_getElem? (i := 90) (by decide +kernel)) rfl
theorem cd_Share_pointsOf : Cond.code y_Share_pointsOf b_Share_pointsOf 2 (some .int) ∈ zT := zT_of (List.mem_of_getElem? (i := 280) (by decide +kernel)) rfl
theorem hd_Share_pointsOf : y_Share_pointsOf.cls ≠ "java/lang/invoke/MethodHandle" ∧ y_Share_pointsOf.cls ≠ "java/lang/invoke/VarHandle" ∧ (parseMethodDescriptor y_Share_pointsOf.desc).map (fun d => d.parameters.length) = some 1 := by decide +kernel
theorem lk_Share_49 : Cond.methodLink R_Share 49 y_Share_pointsOf ∈ zT := zT_of (List.mem_of_getElem? (i := 277) (by decide +kernel)) rfl
theorem im_Share_pointsOf : Cond.instanceMethod y_Share_pointsOf ∈ zT := zT_of (List.mem_of_getElem? (i := 278) (by decide +kernel)) rfl
theorem se_Share_pointsOf : Cond.selects R_Share y_Share_pointsOf y_Share_pointsOf ∈ zT := zT_of (List.mem_of_getElem? (i := 279) (by decide +kernel)) rfl
theorem cd_SC_weight : Cond.code y_SC_weight b_SC_weight 1 (some .int) ∈ zT := zT_of (List.mem_of_getElem? (i := 232) (by decide +kernel)) rfl
theorem hd_SC_weight : y_SC_weight.cls ≠ "java/lang/invoke/MethodHandle" ∧ y_SC_weight.cls ≠ "java/lang/invoke/VarHandle" ∧ (parseMethodDescriptor y_SC_weight.desc).map (fun d => d.parameters.length) = some 1 := by decide +kernel
theorem ln_Share_53 : Cond.methodLinkNest R_Share 53 y_SC_weight R_SC ∈ lw_tbl := List.mem_of_getElem? (i := 282) (by decide +kernel)
theorem st_SC_weight : Cond.static y_SC_weight ∈ zT := zT_of (List.mem_of_getElem? (i := 231) (by decide +kernel)) rfl
theorem cd_Share_hasCell : Cond.code y_Share_hasCell b_Share_hasCell 2 (some .boolean) ∈ zT := zT_of (List.mem_of_getElem? (i := 260) (by decide +kernel)) rfl
theorem hd_Share_hasCell : y_Share_hasCell.cls ≠ "java/lang/invoke/MethodHandle" ∧ y_Share_hasCell.cls ≠ "java/lang/invoke/VarHandle" ∧ (parseMethodDescriptor y_Share_hasCell.desc).map (fun d => d.parameters.length) = some 1 := by decide +kernel
theorem lk_Share_56 : Cond.methodLink R_Share 56 y_Share_hasCell ∈ zT := zT_of (List.mem_of_getElem? (i := 257) (by decide +kernel)) rfl
theorem im_Share_hasCell : Cond.instanceMethod y_Share_hasCell ∈ zT := zT_of (List.mem_of_getElem? (i := 258) (by decide +kernel)) rfl
theorem se_Share_hasCell : Cond.selects R_Share y_Share_hasCell y_Share_hasCell ∈ zT := zT_of (List.mem_of_getElem? (i := 259) (by decide +kernel)) rfl
theorem fl_Share_15 : Cond.fieldLink R_Share 15 "StateCoder$Share" "symbols" "[I" ∈ zT := zT_of (List.mem_of_getElem? (i := 91) (by decide +kernel)) rfl
theorem fl_Share_18 : Cond.fieldLink R_Share 18 "StateCoder$Share" "bits" "[I" ∈ zT := zT_of (List.mem_of_getElem? (i := 92) (by decide +kernel)) rfl
theorem fl_Share_21 : Cond.fieldLink R_Share 21 "StateCoder$Share" "bases" "[I" ∈ zT := zT_of (List.mem_of_getElem? (i := 93) (by decide +kernel)) rfl
theorem fl_Share_27 : Cond.fieldLink R_Share 27 "StateCoder$Share" "firstOfSymbol" "[I" ∈ zT := zT_of (List.mem_of_getElem? (i := 95) (by decide +kernel)) rfl
theorem cd_Share_slotOf : Cond.code y_Share_slotOf b_Share_slotOf 3 (some .int) ∈ zT := zT_of (List.mem_of_getElem? (i := 294) (by decide +kernel)) rfl
theorem hd_Share_slotOf : y_Share_slotOf.cls ≠ "java/lang/invoke/MethodHandle" ∧ y_Share_slotOf.cls ≠ "java/lang/invoke/VarHandle" ∧ (parseMethodDescriptor y_Share_slotOf.desc).map (fun d => d.parameters.length) = some 2 := by decide +kernel
theorem lk_Share_59 : Cond.methodLink R_Share 59 y_Share_slotOf ∈ zT := zT_of (List.mem_of_getElem? (i := 291) (by decide +kernel)) rfl
theorem im_Share_slotOf : Cond.instanceMethod y_Share_slotOf ∈ zT := zT_of (List.mem_of_getElem? (i := 293) (by decide +kernel)) rfl
theorem se_Share_slotOf : Cond.selects R_Share y_Share_slotOf y_Share_slotOf ∈ zT := zT_of (List.mem_of_getElem? (i := 9) (by decide +kernel)) rfl
theorem fl_Share_24 : Cond.fieldLink R_Share 24 "StateCoder$Share" "cellsBySymbol" "[I" ∈ zT := zT_of (List.mem_of_getElem? (i := 94) (by decide +kernel)) rfl
theorem lk_Share_3 : Cond.methodLink R_Share 3 objectInit ∈ zT := zT_of (List.mem_of_getElem? (i := 89) (by decide +kernel)) rfl
theorem ac_int : Cond.arrayClass (newarray.typeOf .int) ∈ zT := zT_of (List.mem_of_getElem? (i := 82) (by decide +kernel)) rfl
theorem fl_Share_30 : Cond.fieldLink R_Share 30 "StateCoder$Share" "nextNumber" "[I" ∈ zT := zT_of (List.mem_of_getElem? (i := 96) (by decide +kernel)) rfl
theorem cd_SC_exponent : Cond.code y_SC_exponent b_SC_exponent 2 (some .int) ∈ zT := zT_of (List.mem_of_getElem? (i := 297) (by decide +kernel)) rfl
theorem hd_SC_exponent : y_SC_exponent.cls ≠ "java/lang/invoke/MethodHandle" ∧ y_SC_exponent.cls ≠ "java/lang/invoke/VarHandle" ∧ (parseMethodDescriptor y_SC_exponent.desc).map (fun d => d.parameters.length) = some 1 := by decide +kernel
theorem ln_Share_83 : Cond.methodLinkNest R_Share 83 y_SC_exponent R_SC ∈ lw_tbl := List.mem_of_getElem? (i := 295) (by decide +kernel)
theorem st_SC_exponent : Cond.static y_SC_exponent ∈ zT := zT_of (List.mem_of_getElem? (i := 296) (by decide +kernel)) rfl
theorem cd_Share_weightOf : Cond.code y_Share_weightOf b_Share_weightOf 2 (some .int) ∈ zT := zT_of (List.mem_of_getElem? (i := 276) (by decide +kernel)) rfl
theorem hd_Share_weightOf : y_Share_weightOf.cls ≠ "java/lang/invoke/MethodHandle" ∧ y_Share_weightOf.cls ≠ "java/lang/invoke/VarHandle" ∧ (parseMethodDescriptor y_Share_weightOf.desc).map (fun d => d.parameters.length) = some 1 := by decide +kernel
theorem lk_Share_76 : Cond.methodLink R_Share 76 y_Share_weightOf ∈ zT := zT_of (List.mem_of_getElem? (i := 273) (by decide +kernel)) rfl
theorem im_Share_weightOf : Cond.instanceMethod y_Share_weightOf ∈ zT := zT_of (List.mem_of_getElem? (i := 274) (by decide +kernel)) rfl
theorem se_Share_weightOf : Cond.selects R_Share y_Share_weightOf y_Share_weightOf ∈ zT := zT_of (List.mem_of_getElem? (i := 275) (by decide +kernel)) rfl
theorem d_Share_exists_0 : decode b_Share_exists 0 = .ok (.aload_n 0, 1) := by decide +kernel
theorem d_Share_exists_1 : decode b_Share_exists 1 = .ok (.getfield 33, 3) := by decide +kernel
theorem d_Share_exists_4 : decode b_Share_exists 4 = .ok (.ifCond .le 7, 3) := by decide +kernel
theorem d_Share_exists_7 : decode b_Share_exists 7 = .ok (.iconst 1, 1) := by decide +kernel
theorem d_Share_exists_8 : decode b_Share_exists 8 = .ok (.goto 4, 3) := by decide +kernel
theorem d_Share_exists_11 : decode b_Share_exists 11 = .ok (.iconst 0, 1) := by decide +kernel
theorem d_Share_exists_12 : decode b_Share_exists 12 = .ok (.ireturn, 1) := by decide +kernel
theorem d_Share_order_0 : decode b_Share_order 0 = .ok (.aload_n 0, 1) := by decide +kernel
theorem d_Share_order_1 : decode b_Share_order 1 = .ok (.getfield 33, 3) := by decide +kernel
theorem d_Share_order_4 : decode b_Share_order 4 = .ok (.ireturn, 1) := by decide +kernel
theorem d_Share_cells_0 : decode b_Share_cells 0 = .ok (.iconst 1, 1) := by decide +kernel
theorem d_Share_cells_1 : decode b_Share_cells 1 = .ok (.aload_n 0, 1) := by decide +kernel
theorem d_Share_cells_2 : decode b_Share_cells 2 = .ok (.getfield 33, 3) := by decide +kernel
theorem d_Share_cells_5 : decode b_Share_cells 5 = .ok (.ishl, 1) := by decide +kernel
theorem d_Share_cells_6 : decode b_Share_cells 6 = .ok (.ireturn, 1) := by decide +kernel
theorem d_Share_hasCell_0 : decode b_Share_hasCell 0 = .ok (.aload_n 0, 1) := by decide +kernel
theorem d_Share_hasCell_1 : decode b_Share_hasCell 1 = .ok (.invokevirtual 37, 3) := by decide +kernel
theorem d_Share_hasCell_4 : decode b_Share_hasCell 4 = .ok (.ifCond .eq 26, 3) := by decide +kernel
theorem d_Share_hasCell_7 : decode b_Share_hasCell 7 = .ok (.iload_n 1, 1) := by decide +kernel
theorem d_Share_hasCell_8 : decode b_Share_hasCell 8 = .ok (.ifCond .lt 22, 3) := by decide +kernel
theorem d_Share_hasCell_11 : decode b_Share_hasCell 11 = .ok (.iload_n 1, 1) := by decide +kernel
theorem d_Share_hasCell_12 : decode b_Share_hasCell 12 = .ok (.aload_n 0, 1) := by decide +kernel
theorem d_Share_hasCell_13 : decode b_Share_hasCell 13 = .ok (.invokevirtual 41, 3) := by decide +kernel
theorem d_Share_hasCell_16 : decode b_Share_hasCell 16 = .ok (.if_icmp .ge 14, 3) := by decide +kernel
theorem d_Share_hasCell_19 : decode b_Share_hasCell 19 = .ok (.iload_n 1, 1) := by decide +kernel
theorem d_Share_hasCell_20 : decode b_Share_hasCell 20 = .ok (.sipush 4096, 3) := by decide +kernel
theorem d_Share_hasCell_23 : decode b_Share_hasCell 23 = .ok (.if_icmp .ge 7, 3) := by decide +kernel
theorem d_Share_hasCell_26 : decode b_Share_hasCell 26 = .ok (.iconst 1, 1) := by decide +kernel
theorem d_Share_hasCell_27 : decode b_Share_hasCell 27 = .ok (.goto 4, 3) := by decide +kernel
theorem d_Share_hasCell_30 : decode b_Share_hasCell 30 = .ok (.iconst 0, 1) := by decide +kernel
theorem d_Share_hasCell_31 : decode b_Share_hasCell 31 = .ok (.ireturn, 1) := by decide +kernel
theorem d_Share_pointsOf_0 : decode b_Share_pointsOf 0 = .ok (.iload_n 1, 1) := by decide +kernel
theorem d_Share_pointsOf_1 : decode b_Share_pointsOf 1 = .ok (.invokestatic 45, 3) := by decide +kernel
theorem d_Share_pointsOf_4 : decode b_Share_pointsOf 4 = .ok (.ifCond .eq 12, 3) := by decide +kernel
theorem d_Share_pointsOf_7 : decode b_Share_pointsOf 7 = .ok (.aload_n 0, 1) := by decide +kernel
theorem d_Share_pointsOf_8 : decode b_Share_pointsOf 8 = .ok (.getfield 9, 3) := by decide +kernel
theorem d_Share_pointsOf_11 : decode b_Share_pointsOf 11 = .ok (.iload_n 1, 1) := by decide +kernel
theorem d_Share_pointsOf_12 : decode b_Share_pointsOf 12 = .ok (.iaload, 1) := by decide +kernel
theorem d_Share_pointsOf_13 : decode b_Share_pointsOf 13 = .ok (.goto 4, 3) := by decide +kernel
theorem d_Share_pointsOf_17 : decode b_Share_pointsOf 17 = .ok (.ireturn, 1) := by decide +kernel
theorem d_Share_weightOf_0 : decode b_Share_weightOf 0 = .ok (.aload_n 0, 1) := by decide +kernel
theorem d_Share_weightOf_1 : decode b_Share_weightOf 1 = .ok (.iload_n 1, 1) := by decide +kernel
theorem d_Share_weightOf_2 : decode b_Share_weightOf 2 = .ok (.invokevirtual 49, 3) := by decide +kernel
theorem d_Share_weightOf_5 : decode b_Share_weightOf 5 = .ok (.invokestatic 53, 3) := by decide +kernel
theorem d_Share_weightOf_8 : decode b_Share_weightOf 8 = .ok (.ireturn, 1) := by decide +kernel
theorem d_Share_lastSymbol_0 : decode b_Share_lastSymbol 0 = .ok (.sipush 255, 3) := by decide +kernel
theorem d_Share_lastSymbol_3 : decode b_Share_lastSymbol 3 = .ok (.istore_n 1, 1) := by decide +kernel
theorem d_Share_lastSymbol_4 : decode b_Share_lastSymbol 4 = .ok (.iload_n 1, 1) := by decide +kernel
theorem d_Share_lastSymbol_5 : decode b_Share_lastSymbol 5 = .ok (.ifCond .le 18, 3) := by decide +kernel
theorem d_Share_lastSymbol_8 : decode b_Share_lastSymbol 8 = .ok (.aload_n 0, 1) := by decide +kernel
theorem d_Share_lastSymbol_9 : decode b_Share_lastSymbol 9 = .ok (.getfield 9, 3) := by decide +kernel
theorem d_Share_lastSymbol_12 : decode b_Share_lastSymbol 12 = .ok (.iload_n 1, 1) := by decide +kernel
theorem d_Share_lastSymbol_13 : decode b_Share_lastSymbol 13 = .ok (.iaload, 1) := by decide +kernel
theorem d_Share_lastSymbol_14 : decode b_Share_lastSymbol 14 = .ok (.ifCond .ne 9, 3) := by decide +kernel
theorem d_Share_lastSymbol_17 : decode b_Share_lastSymbol 17 = .ok (.iinc 1 (-1), 3) := by decide +kernel
theorem d_Share_lastSymbol_20 : decode b_Share_lastSymbol 20 = .ok (.goto (-16), 3) := by decide +kernel
theorem d_Share_lastSymbol_23 : decode b_Share_lastSymbol 23 = .ok (.iload_n 1, 1) := by decide +kernel
theorem d_Share_lastSymbol_24 : decode b_Share_lastSymbol 24 = .ok (.ireturn, 1) := by decide +kernel
theorem d_Share_symbolOf_0 : decode b_Share_symbolOf 0 = .ok (.aload_n 0, 1) := by decide +kernel
theorem d_Share_symbolOf_1 : decode b_Share_symbolOf 1 = .ok (.iload_n 1, 1) := by decide +kernel
theorem d_Share_symbolOf_2 : decode b_Share_symbolOf 2 = .ok (.invokevirtual 56, 3) := by decide +kernel
theorem d_Share_symbolOf_5 : decode b_Share_symbolOf 5 = .ok (.ifCond .eq 12, 3) := by decide +kernel
theorem d_Share_symbolOf_8 : decode b_Share_symbolOf 8 = .ok (.aload_n 0, 1) := by decide +kernel
theorem d_Share_symbolOf_9 : decode b_Share_symbolOf 9 = .ok (.getfield 15, 3) := by decide +kernel
theorem d_Share_symbolOf_12 : decode b_Share_symbolOf 12 = .ok (.iload_n 1, 1) := by decide +kernel
theorem d_Share_symbolOf_13 : decode b_Share_symbolOf 13 = .ok (.iaload, 1) := by decide +kernel
theorem d_Share_symbolOf_14 : decode b_Share_symbolOf 14 = .ok (.goto 4, 3) := by decide +kernel
theorem d_Share_symbolOf_18 : decode b_Share_symbolOf 18 = .ok (.ireturn, 1) := by decide +kernel
theorem d_Share_bitsOf_0 : decode b_Share_bitsOf 0 = .ok (.aload_n 0, 1) := by decide +kernel
theorem d_Share_bitsOf_1 : decode b_Share_bitsOf 1 = .ok (.iload_n 1, 1) := by decide +kernel
theorem d_Share_bitsOf_2 : decode b_Share_bitsOf 2 = .ok (.invokevirtual 56, 3) := by decide +kernel
theorem d_Share_bitsOf_5 : decode b_Share_bitsOf 5 = .ok (.ifCond .eq 12, 3) := by decide +kernel
theorem d_Share_bitsOf_8 : decode b_Share_bitsOf 8 = .ok (.aload_n 0, 1) := by decide +kernel
theorem d_Share_bitsOf_9 : decode b_Share_bitsOf 9 = .ok (.getfield 18, 3) := by decide +kernel
theorem d_Share_bitsOf_12 : decode b_Share_bitsOf 12 = .ok (.iload_n 1, 1) := by decide +kernel
theorem d_Share_bitsOf_13 : decode b_Share_bitsOf 13 = .ok (.iaload, 1) := by decide +kernel
theorem d_Share_bitsOf_14 : decode b_Share_bitsOf 14 = .ok (.goto 4, 3) := by decide +kernel
theorem d_Share_bitsOf_18 : decode b_Share_bitsOf 18 = .ok (.ireturn, 1) := by decide +kernel
theorem d_Share_baseOf_0 : decode b_Share_baseOf 0 = .ok (.aload_n 0, 1) := by decide +kernel
theorem d_Share_baseOf_1 : decode b_Share_baseOf 1 = .ok (.iload_n 1, 1) := by decide +kernel
theorem d_Share_baseOf_2 : decode b_Share_baseOf 2 = .ok (.invokevirtual 56, 3) := by decide +kernel
theorem d_Share_baseOf_5 : decode b_Share_baseOf 5 = .ok (.ifCond .eq 12, 3) := by decide +kernel
theorem d_Share_baseOf_8 : decode b_Share_baseOf 8 = .ok (.aload_n 0, 1) := by decide +kernel
theorem d_Share_baseOf_9 : decode b_Share_baseOf 9 = .ok (.getfield 21, 3) := by decide +kernel
theorem d_Share_baseOf_12 : decode b_Share_baseOf 12 = .ok (.iload_n 1, 1) := by decide +kernel
theorem d_Share_baseOf_13 : decode b_Share_baseOf 13 = .ok (.iaload, 1) := by decide +kernel
theorem d_Share_baseOf_14 : decode b_Share_baseOf 14 = .ok (.goto 4, 3) := by decide +kernel
theorem d_Share_baseOf_18 : decode b_Share_baseOf 18 = .ok (.ireturn, 1) := by decide +kernel
theorem d_Share_slotOf_0 : decode b_Share_slotOf 0 = .ok (.iload_n 1, 1) := by decide +kernel
theorem d_Share_slotOf_1 : decode b_Share_slotOf 1 = .ok (.invokestatic 45, 3) := by decide +kernel
theorem d_Share_slotOf_4 : decode b_Share_slotOf 4 = .ok (.ifCond .eq 24, 3) := by decide +kernel
theorem d_Share_slotOf_7 : decode b_Share_slotOf 7 = .ok (.aload_n 0, 1) := by decide +kernel
theorem d_Share_slotOf_8 : decode b_Share_slotOf 8 = .ok (.getfield 27, 3) := by decide +kernel
theorem d_Share_slotOf_11 : decode b_Share_slotOf 11 = .ok (.iload_n 1, 1) := by decide +kernel
theorem d_Share_slotOf_12 : decode b_Share_slotOf 12 = .ok (.iaload, 1) := by decide +kernel
theorem d_Share_slotOf_13 : decode b_Share_slotOf 13 = .ok (.iload_n 2, 1) := by decide +kernel
theorem d_Share_slotOf_14 : decode b_Share_slotOf 14 = .ok (.iadd, 1) := by decide +kernel
theorem d_Share_slotOf_15 : decode b_Share_slotOf 15 = .ok (.aload_n 0, 1) := by decide +kernel
theorem d_Share_slotOf_16 : decode b_Share_slotOf 16 = .ok (.getfield 9, 3) := by decide +kernel
theorem d_Share_slotOf_19 : decode b_Share_slotOf 19 = .ok (.iload_n 1, 1) := by decide +kernel
theorem d_Share_slotOf_20 : decode b_Share_slotOf 20 = .ok (.iaload, 1) := by decide +kernel
theorem d_Share_slotOf_21 : decode b_Share_slotOf 21 = .ok (.invokestatic 53, 3) := by decide +kernel
theorem d_Share_slotOf_24 : decode b_Share_slotOf 24 = .ok (.isub, 1) := by decide +kernel
theorem d_Share_slotOf_25 : decode b_Share_slotOf 25 = .ok (.goto 4, 3) := by decide +kernel
theorem d_Share_slotOf_29 : decode b_Share_slotOf 29 = .ok (.ireturn, 1) := by decide +kernel
theorem d_Share_cellOf_0 : decode b_Share_cellOf 0 = .ok (.aload_n 0, 1) := by decide +kernel
theorem d_Share_cellOf_1 : decode b_Share_cellOf 1 = .ok (.iload_n 1, 1) := by decide +kernel
theorem d_Share_cellOf_2 : decode b_Share_cellOf 2 = .ok (.iload_n 2, 1) := by decide +kernel
theorem d_Share_cellOf_3 : decode b_Share_cellOf 3 = .ok (.invokevirtual 59, 3) := by decide +kernel
theorem d_Share_cellOf_6 : decode b_Share_cellOf 6 = .ok (.istore_n 3, 1) := by decide +kernel
theorem d_Share_cellOf_7 : decode b_Share_cellOf 7 = .ok (.aload_n 0, 1) := by decide +kernel
theorem d_Share_cellOf_8 : decode b_Share_cellOf 8 = .ok (.iload_n 3, 1) := by decide +kernel
theorem d_Share_cellOf_9 : decode b_Share_cellOf 9 = .ok (.invokevirtual 56, 3) := by decide +kernel
theorem d_Share_cellOf_12 : decode b_Share_cellOf 12 = .ok (.ifCond .eq 12, 3) := by decide +kernel
theorem d_Share_cellOf_15 : decode b_Share_cellOf 15 = .ok (.aload_n 0, 1) := by decide +kernel
theorem d_Share_cellOf_16 : decode b_Share_cellOf 16 = .ok (.getfield 24, 3) := by decide +kernel
theorem d_Share_cellOf_19 : decode b_Share_cellOf 19 = .ok (.iload_n 3, 1) := by decide +kernel
theorem d_Share_cellOf_20 : decode b_Share_cellOf 20 = .ok (.iaload, 1) := by decide +kernel
theorem d_Share_cellOf_21 : decode b_Share_cellOf 21 = .ok (.goto 4, 3) := by decide +kernel
theorem d_Share_cellOf_25 : decode b_Share_cellOf 25 = .ok (.ireturn, 1) := by decide +kernel
theorem d_Share_init_0 : decode b_Share_init 0 = .ok (.aload_n 0, 1) := by decide +kernel
theorem d_Share_init_1 : decode b_Share_init 1 = .ok (.invokespecial 3, 3) := by decide +kernel
theorem d_Share_init_4 : decode b_Share_init 4 = .ok (.aload_n 0, 1) := by decide +kernel
theorem d_Share_init_5 : decode b_Share_init 5 = .ok (.sipush 256, 3) := by decide +kernel
theorem d_Share_init_8 : decode b_Share_init 8 = .ok (.newarray .int, 2) := by decide +kernel
theorem d_Share_init_10 : decode b_Share_init 10 = .ok (.putfield 9, 3) := by decide +kernel
theorem d_Share_init_13 : decode b_Share_init 13 = .ok (.aload_n 0, 1) := by decide +kernel
theorem d_Share_init_14 : decode b_Share_init 14 = .ok (.sipush 4096, 3) := by decide +kernel
theorem d_Share_init_17 : decode b_Share_init 17 = .ok (.newarray .int, 2) := by decide +kernel
theorem d_Share_init_19 : decode b_Share_init 19 = .ok (.putfield 15, 3) := by decide +kernel
theorem d_Share_init_22 : decode b_Share_init 22 = .ok (.aload_n 0, 1) := by decide +kernel
theorem d_Share_init_23 : decode b_Share_init 23 = .ok (.sipush 4096, 3) := by decide +kernel
theorem d_Share_init_26 : decode b_Share_init 26 = .ok (.newarray .int, 2) := by decide +kernel
theorem d_Share_init_28 : decode b_Share_init 28 = .ok (.putfield 18, 3) := by decide +kernel
theorem d_Share_init_31 : decode b_Share_init 31 = .ok (.aload_n 0, 1) := by decide +kernel
theorem d_Share_init_32 : decode b_Share_init 32 = .ok (.sipush 4096, 3) := by decide +kernel
theorem d_Share_init_35 : decode b_Share_init 35 = .ok (.newarray .int, 2) := by decide +kernel
theorem d_Share_init_37 : decode b_Share_init 37 = .ok (.putfield 21, 3) := by decide +kernel
theorem d_Share_init_40 : decode b_Share_init 40 = .ok (.aload_n 0, 1) := by decide +kernel
theorem d_Share_init_41 : decode b_Share_init 41 = .ok (.sipush 4096, 3) := by decide +kernel
theorem d_Share_init_44 : decode b_Share_init 44 = .ok (.newarray .int, 2) := by decide +kernel
theorem d_Share_init_46 : decode b_Share_init 46 = .ok (.putfield 24, 3) := by decide +kernel
theorem d_Share_init_49 : decode b_Share_init 49 = .ok (.aload_n 0, 1) := by decide +kernel
theorem d_Share_init_50 : decode b_Share_init 50 = .ok (.sipush 256, 3) := by decide +kernel
theorem d_Share_init_53 : decode b_Share_init 53 = .ok (.newarray .int, 2) := by decide +kernel
theorem d_Share_init_55 : decode b_Share_init 55 = .ok (.putfield 27, 3) := by decide +kernel
theorem d_Share_init_58 : decode b_Share_init 58 = .ok (.aload_n 0, 1) := by decide +kernel
theorem d_Share_init_59 : decode b_Share_init 59 = .ok (.sipush 256, 3) := by decide +kernel
theorem d_Share_init_62 : decode b_Share_init 62 = .ok (.newarray .int, 2) := by decide +kernel
theorem d_Share_init_64 : decode b_Share_init 64 = .ok (.putfield 30, 3) := by decide +kernel
theorem d_Share_init_67 : decode b_Share_init 67 = .ok (.return_, 1) := by decide +kernel
theorem d_Share_giveNumber_0 : decode b_Share_giveNumber 0 = .ok (.aload_n 0, 1) := by decide +kernel
theorem d_Share_giveNumber_1 : decode b_Share_giveNumber 1 = .ok (.iload_n 2, 1) := by decide +kernel
theorem d_Share_giveNumber_2 : decode b_Share_giveNumber 2 = .ok (.iload_n 3, 1) := by decide +kernel
theorem d_Share_giveNumber_3 : decode b_Share_giveNumber 3 = .ok (.invokevirtual 59, 3) := by decide +kernel
theorem d_Share_giveNumber_6 : decode b_Share_giveNumber 6 = .ok (.istore 4, 2) := by decide +kernel
theorem d_Share_giveNumber_8 : decode b_Share_giveNumber 8 = .ok (.aload_n 0, 1) := by decide +kernel
theorem d_Share_giveNumber_9 : decode b_Share_giveNumber 9 = .ok (.iload_n 1, 1) := by decide +kernel
theorem d_Share_giveNumber_10 : decode b_Share_giveNumber 10 = .ok (.invokevirtual 56, 3) := by decide +kernel
theorem d_Share_giveNumber_13 : decode b_Share_giveNumber 13 = .ok (.ifCond .eq 54, 3) := by decide +kernel
theorem d_Share_giveNumber_16 : decode b_Share_giveNumber 16 = .ok (.aload_n 0, 1) := by decide +kernel
theorem d_Share_giveNumber_17 : decode b_Share_giveNumber 17 = .ok (.iload 4, 2) := by decide +kernel
theorem d_Share_giveNumber_19 : decode b_Share_giveNumber 19 = .ok (.invokevirtual 56, 3) := by decide +kernel
theorem d_Share_giveNumber_22 : decode b_Share_giveNumber 22 = .ok (.ifCond .eq 45, 3) := by decide +kernel
theorem d_Share_giveNumber_25 : decode b_Share_giveNumber 25 = .ok (.aload_n 0, 1) := by decide +kernel
theorem d_Share_giveNumber_26 : decode b_Share_giveNumber 26 = .ok (.getfield 24, 3) := by decide +kernel
theorem d_Share_giveNumber_29 : decode b_Share_giveNumber 29 = .ok (.iload 4, 2) := by decide +kernel
theorem d_Share_giveNumber_31 : decode b_Share_giveNumber 31 = .ok (.iload_n 1, 1) := by decide +kernel
theorem d_Share_giveNumber_32 : decode b_Share_giveNumber 32 = .ok (.iastore, 1) := by decide +kernel
theorem d_Share_giveNumber_33 : decode b_Share_giveNumber 33 = .ok (.aload_n 0, 1) := by decide +kernel
theorem d_Share_giveNumber_34 : decode b_Share_giveNumber 34 = .ok (.getfield 18, 3) := by decide +kernel
theorem d_Share_giveNumber_37 : decode b_Share_giveNumber 37 = .ok (.iload_n 1, 1) := by decide +kernel
theorem d_Share_giveNumber_38 : decode b_Share_giveNumber 38 = .ok (.aload_n 0, 1) := by decide +kernel
theorem d_Share_giveNumber_39 : decode b_Share_giveNumber 39 = .ok (.getfield 33, 3) := by decide +kernel
theorem d_Share_giveNumber_42 : decode b_Share_giveNumber 42 = .ok (.iload_n 3, 1) := by decide +kernel
theorem d_Share_giveNumber_43 : decode b_Share_giveNumber 43 = .ok (.invokestatic 83, 3) := by decide +kernel
theorem d_Share_giveNumber_46 : decode b_Share_giveNumber 46 = .ok (.isub, 1) := by decide +kernel
theorem d_Share_giveNumber_47 : decode b_Share_giveNumber 47 = .ok (.iastore, 1) := by decide +kernel
theorem d_Share_giveNumber_48 : decode b_Share_giveNumber 48 = .ok (.aload_n 0, 1) := by decide +kernel
theorem d_Share_giveNumber_49 : decode b_Share_giveNumber 49 = .ok (.getfield 21, 3) := by decide +kernel
theorem d_Share_giveNumber_52 : decode b_Share_giveNumber 52 = .ok (.iload_n 1, 1) := by decide +kernel
theorem d_Share_giveNumber_53 : decode b_Share_giveNumber 53 = .ok (.iload_n 3, 1) := by decide +kernel
theorem d_Share_giveNumber_54 : decode b_Share_giveNumber 54 = .ok (.aload_n 0, 1) := by decide +kernel
theorem d_Share_giveNumber_55 : decode b_Share_giveNumber 55 = .ok (.getfield 18, 3) := by decide +kernel
theorem d_Share_giveNumber_58 : decode b_Share_giveNumber 58 = .ok (.iload_n 1, 1) := by decide +kernel
theorem d_Share_giveNumber_59 : decode b_Share_giveNumber 59 = .ok (.iaload, 1) := by decide +kernel
theorem d_Share_giveNumber_60 : decode b_Share_giveNumber 60 = .ok (.ishl, 1) := by decide +kernel
theorem d_Share_giveNumber_61 : decode b_Share_giveNumber 61 = .ok (.aload_n 0, 1) := by decide +kernel
theorem d_Share_giveNumber_62 : decode b_Share_giveNumber 62 = .ok (.invokevirtual 41, 3) := by decide +kernel
theorem d_Share_giveNumber_65 : decode b_Share_giveNumber 65 = .ok (.isub, 1) := by decide +kernel
theorem d_Share_giveNumber_66 : decode b_Share_giveNumber 66 = .ok (.iastore, 1) := by decide +kernel
theorem d_Share_giveNumber_67 : decode b_Share_giveNumber 67 = .ok (.return_, 1) := by decide +kernel
theorem d_Share_startNumbers_0 : decode b_Share_startNumbers 0 = .ok (.iconst 0, 1) := by decide +kernel
theorem d_Share_startNumbers_1 : decode b_Share_startNumbers 1 = .ok (.istore_n 1, 1) := by decide +kernel
theorem d_Share_startNumbers_2 : decode b_Share_startNumbers 2 = .ok (.iconst 0, 1) := by decide +kernel
theorem d_Share_startNumbers_3 : decode b_Share_startNumbers 3 = .ok (.istore_n 2, 1) := by decide +kernel
theorem d_Share_startNumbers_4 : decode b_Share_startNumbers 4 = .ok (.iload_n 2, 1) := by decide +kernel
theorem d_Share_startNumbers_5 : decode b_Share_startNumbers 5 = .ok (.sipush 256, 3) := by decide +kernel
theorem d_Share_startNumbers_8 : decode b_Share_startNumbers 8 = .ok (.if_icmp .ge 35, 3) := by decide +kernel
theorem d_Share_startNumbers_11 : decode b_Share_startNumbers 11 = .ok (.aload_n 0, 1) := by decide +kernel
theorem d_Share_startNumbers_12 : decode b_Share_startNumbers 12 = .ok (.getfield 27, 3) := by decide +kernel
theorem d_Share_startNumbers_15 : decode b_Share_startNumbers 15 = .ok (.iload_n 2, 1) := by decide +kernel
theorem d_Share_startNumbers_16 : decode b_Share_startNumbers 16 = .ok (.iload_n 1, 1) := by decide +kernel
theorem d_Share_startNumbers_17 : decode b_Share_startNumbers 17 = .ok (.iastore, 1) := by decide +kernel
theorem d_Share_startNumbers_18 : decode b_Share_startNumbers 18 = .ok (.aload_n 0, 1) := by decide +kernel
theorem d_Share_startNumbers_19 : decode b_Share_startNumbers 19 = .ok (.getfield 30, 3) := by decide +kernel
theorem d_Share_startNumbers_22 : decode b_Share_startNumbers 22 = .ok (.iload_n 2, 1) := by decide +kernel
theorem d_Share_startNumbers_23 : decode b_Share_startNumbers 23 = .ok (.aload_n 0, 1) := by decide +kernel
theorem d_Share_startNumbers_24 : decode b_Share_startNumbers 24 = .ok (.iload_n 2, 1) := by decide +kernel
theorem d_Share_startNumbers_25 : decode b_Share_startNumbers 25 = .ok (.invokevirtual 76, 3) := by decide +kernel
theorem d_Share_startNumbers_28 : decode b_Share_startNumbers 28 = .ok (.iastore, 1) := by decide +kernel
theorem d_Share_startNumbers_29 : decode b_Share_startNumbers 29 = .ok (.iload_n 1, 1) := by decide +kernel
theorem d_Share_startNumbers_30 : decode b_Share_startNumbers 30 = .ok (.aload_n 0, 1) := by decide +kernel
theorem d_Share_startNumbers_31 : decode b_Share_startNumbers 31 = .ok (.iload_n 2, 1) := by decide +kernel
theorem d_Share_startNumbers_32 : decode b_Share_startNumbers 32 = .ok (.invokevirtual 76, 3) := by decide +kernel
theorem d_Share_startNumbers_35 : decode b_Share_startNumbers 35 = .ok (.iadd, 1) := by decide +kernel
theorem d_Share_startNumbers_36 : decode b_Share_startNumbers 36 = .ok (.istore_n 1, 1) := by decide +kernel
theorem d_Share_startNumbers_37 : decode b_Share_startNumbers 37 = .ok (.iinc 2 1, 3) := by decide +kernel
theorem d_Share_startNumbers_40 : decode b_Share_startNumbers 40 = .ok (.goto (-36), 3) := by decide +kernel
theorem d_Share_startNumbers_43 : decode b_Share_startNumbers 43 = .ok (.return_, 1) := by decide +kernel
abbrev rm_Share_exists : Room := { frames := 0, cells := 0, slots := 0, locals := 0 }
set_option maxHeartbeats 4000000 in
set_option maxRecDepth 100000 in
theorem c_Share_exists (l : Launch) (D : va_G) (cI cB cZ : ClassId) (h : Nat) (pP : Nat) (pS : Nat) (pB : Nat) (pA : Nat) (pC : Nat) (pF : Nat) (pN : Nat) (o : Nat) (ho : o ≤ 12) : Met l y_Share_exists (.code y_Share_exists b_Share_exists 1 (some .boolean) :: zT) rm_Share_exists (zRc D classes (TY cI cB cZ) [(h, .inr (1, [.ref pP, .ref pS, .ref pB, .ref pA, .ref pC, .ref pF, .ref pN, .int (iZ (o : Int))]))] [.ref h]) (zSi (fun z => (z = 1 ∧ 0 < o) ∨ (z = 0 ∧ o = 0))) 0 0 (fun _ => False) := by
  refine z_ofr (by decide) (Nat.le_of_ble_eq_true rfl) (Or.inr rfl) ?_
  intro p e s m args below meth c Q E jP jK jret ls jl
  obtain ⟨jx, jb, jrt, jml, jown, jts, jlk⟩ := E
  have jown : s.vm.findClass R_Share = some m.cls := jown
  have jl : lv_has ls 1 [(0, .ref h)] := jl
  refine lv_aload_n jx jb d_Share_exists_0 rfl (lv_at jl 0 rfl) ?_
  refine va_get (D := D) (ci := 1) (v := .int (iZ (o : Int))) (C := R_Share) (T := F_Share) (N := 8) jx jb jts i_Share jown jK.1 jP 0 rfl rfl 7 (by decide) (jts _ fl_Share_33) (fun _ h9 => h9) rfl d_Share_exists_1 ?_
  refine z_if_le (tgt := 11) jx jb d_Share_exists_4 (by decide) ⟨by omega, by omega⟩ (fun hc4 => ?_) (fun hc4 => ?_)
  ·
    refine lv_iconst (v := iZ 0) jx jb d_Share_exists_11 rfl ?_
    exact jret _ _ _ (Or.inr (Or.inl rfl)) (by omega) d_Share_exists_12
  ·
    refine lv_iconst (v := iZ 1) jx jb d_Share_exists_7 rfl ?_
    refine lv_goto (tgt := 12) jx jb d_Share_exists_8 (by decide) ?_
    exact jret _ _ _ (Or.inr (Or.inr rfl)) (by omega) d_Share_exists_12
abbrev rm_Share_order : Room := { frames := 0, cells := 0, slots := 0, locals := 0 }
set_option maxHeartbeats 4000000 in
set_option maxRecDepth 100000 in
theorem c_Share_order (l : Launch) (D : va_G) (cI cB cZ : ClassId) (h : Nat) (pP : Nat) (pS : Nat) (pB : Nat) (pA : Nat) (pC : Nat) (pF : Nat) (pN : Nat) (o : Nat) : Met l y_Share_order (.code y_Share_order b_Share_order 1 (some .int) :: zT) rm_Share_order (zRc D classes (TY cI cB cZ) [(h, .inr (1, [.ref pP, .ref pS, .ref pB, .ref pA, .ref pC, .ref pF, .ref pN, .int (iZ (o : Int))]))] [.ref h]) (zSi (fun z => z = (o : Int))) 0 0 (fun _ => False) := by
  refine z_ofr (by decide) (Nat.le_of_ble_eq_true rfl) (Or.inl rfl) ?_
  intro p e s m args below meth c Q E jP jK jret ls jl
  obtain ⟨jx, jb, jrt, jml, jown, jts, jlk⟩ := E
  have jown : s.vm.findClass R_Share = some m.cls := jown
  have jl : lv_has ls 1 [(0, .ref h)] := jl
  refine lv_aload_n jx jb d_Share_order_0 rfl (lv_at jl 0 rfl) ?_
  refine va_get (D := D) (ci := 1) (v := .int (iZ (o : Int))) (C := R_Share) (T := F_Share) (N := 8) jx jb jts i_Share jown jK.1 jP 0 rfl rfl 7 (by decide) (jts _ fl_Share_33) (fun _ h9 => h9) rfl d_Share_order_1 ?_
  exact jret _ _ _ (Or.inl rfl) (rfl) d_Share_order_4
abbrev rm_Share_cells : Room := { frames := 0, cells := 0, slots := 0, locals := 0 }
set_option maxHeartbeats 4000000 in
set_option maxRecDepth 100000 in
theorem c_Share_cells (l : Launch) (D : va_G) (cI cB cZ : ClassId) (h : Nat) (pP : Nat) (pS : Nat) (pB : Nat) (pA : Nat) (pC : Nat) (pF : Nat) (pN : Nat) (o : Nat) (ho : o ≤ 12) : Met l y_Share_cells (.code y_Share_cells b_Share_cells 1 (some .int) :: zT) rm_Share_cells (zRc D classes (TY cI cB cZ) [(h, .inr (1, [.ref pP, .ref pS, .ref pB, .ref pA, .ref pC, .ref pF, .ref pN, .int (iZ (o : Int))]))] [.ref h]) (zSi (fun z => z = 2 ^ o)) 0 0 (fun _ => False) := by
  refine z_ofr (by decide) (Nat.le_of_ble_eq_true rfl) (Or.inl rfl) ?_
  intro p e s m args below meth c Q E jP jK jret ls jl
  obtain ⟨jx, jb, jrt, jml, jown, jts, jlk⟩ := E
  have jown : s.vm.findClass R_Share = some m.cls := jown
  have jl : lv_has ls 1 [(0, .ref h)] := jl
  refine lv_iconst (v := iZ 1) jx jb d_Share_cells_0 rfl ?_
  refine lv_aload_n jx jb d_Share_cells_1 rfl (lv_at jl 0 rfl) ?_
  refine va_get (D := D) (ci := 1) (v := .int (iZ (o : Int))) (C := R_Share) (T := F_Share) (N := 8) jx jb jts i_Share jown jK.1 jP 0 rfl rfl 7 (by decide) (jts _ fl_Share_33) (fun _ h9 => h9) rfl d_Share_cells_2 ?_
  refine z_ishl jx jb d_Share_cells_5 o (2 ^ o) (rfl) (by omega) ?_
  refine z_top (2 ^ o) (Int.one_mul _) ?_
  exact jret _ _ _ (Or.inl rfl) (rfl) d_Share_cells_6
abbrev rm_Share_hasCell : Room := { frames := 1, cells := 0, slots := 0, locals := 20 }
set_option maxHeartbeats 4000000 in
set_option maxRecDepth 100000 in
theorem c_Share_hasCell (l : Launch) (D : va_G) (cI cB cZ : ClassId) (h : Nat) (pP : Nat) (pS : Nat) (pB : Nat) (pA : Nat) (pC : Nat) (pF : Nat) (pN : Nat) (o : Nat) (k : Int) (ho : o ≤ 12) (hk : -2147483648 ≤ k ∧ k < 2147483648) : Met l y_Share_hasCell (.code y_Share_hasCell b_Share_hasCell 2 (some .boolean) :: zT) rm_Share_hasCell (zRc D classes (TY cI cB cZ) [(h, .inr (1, [.ref pP, .ref pS, .ref pB, .ref pA, .ref pC, .ref pF, .ref pN, .int (iZ (o : Int))]))] [.ref h, .int (iZ k)]) (zSi (fun z => (z = 1 ∧ 0 < o ∧ 0 ≤ k ∧ k < 2 ^ o) ∨ (z = 0 ∧ (o = 0 ∨ k < 0 ∨ 2 ^ o ≤ k)))) 0 0 (fun _ => False) := by
  refine z_ofr (by decide) (Nat.le_of_ble_eq_true rfl) (Or.inr rfl) ?_
  intro p e s m args below meth c Q E jP jK jret ls jl
  obtain ⟨jx, jb, jrt, jml, jown, jts, jlk⟩ := E
  have jown : s.vm.findClass R_Share = some m.cls := jown
  have hp12 := p2_le ho
  have hp0 := p2_pos o
  have jl : lv_has ls 2 [(0, .ref h), (1, .int (iZ k))] := jl
  refine lv_aload_n jx jb d_Share_hasCell_0 rfl (lv_at jl 0 rfl) ?_
  refine z_backr (va_runV (As := []) (rest := []) ⟨jx, jb, jml, jown, jts⟩ (c_Share_exists l D cI cB cZ h pP pS pB pA pC pF pN o (by first | assumption | omega)) (zc_V 0 jts cd_Share_exists lk_Share_37 im_Share_exists se_Share_exists in_Share hd_Share_exists ⟨Nat.le_of_ble_eq_true rfl, Nat.le_of_ble_eq_true rfl⟩ rfl rfl) (z_preVR jK jP [0] rfl rfl rfl) rfl rfl jl.1 rfl (lv_room (Nat.le_of_ble_eq_true rfl)) d_Share_hasCell_1 ⟨Nat.le_of_ble_eq_true rfl, Nat.le_of_ble_eq_true rfl⟩) (fun z1 hz1 => ?_)
  rcases hz1 with ⟨rfl, hq1⟩ | ⟨rfl, hq1⟩
  ·
    refine z_if_eq (tgt := 30) jx jb d_Share_hasCell_4 (by decide) ⟨by decide, by decide⟩ (fun hc4 => ?_) (fun hc4 => ?_)
    ·
      exact absurd hc4 (by decide)
    ·
      refine lv_iload_n jx jb d_Share_hasCell_7 rfl (lv_at jl 1 rfl) ?_
      refine z_if_lt (tgt := 30) jx jb d_Share_hasCell_8 (by decide) ⟨by omega, by omega⟩ (fun hc8 => ?_) (fun hc8 => ?_)
      ·
        refine lv_iconst (v := iZ 0) jx jb d_Share_hasCell_30 rfl ?_
        exact jret _ _ _ (Or.inr (Or.inl rfl)) (by omega) d_Share_hasCell_31
      ·
        refine lv_iload_n jx jb d_Share_hasCell_11 rfl (lv_at jl 1 rfl) ?_
        refine lv_aload_n jx jb d_Share_hasCell_12 rfl (lv_at jl 0 rfl) ?_
        refine z_backe (va_runV (As := []) (rest := [.int (iZ k)]) ⟨jx, jb, jml, jown, jts⟩ (c_Share_cells l D cI cB cZ h pP pS pB pA pC pF pN o (by first | assumption | omega)) (zc_V 0 jts cd_Share_cells lk_Share_41 im_Share_cells se_Share_cells in_Share hd_Share_cells ⟨Nat.le_of_ble_eq_true rfl, Nat.le_of_ble_eq_true rfl⟩ rfl rfl) (z_preVR jK jP [0] rfl rfl rfl) rfl rfl jl.1 rfl (lv_room (Nat.le_of_ble_eq_true rfl)) d_Share_hasCell_13 ⟨Nat.le_of_ble_eq_true rfl, Nat.le_of_ble_eq_true rfl⟩) ?_
        refine z_icmp_ge (tgt := 30) jx jb d_Share_hasCell_16 (by decide) ⟨⟨by omega, by omega⟩, ⟨by omega, by omega⟩⟩ (fun hc16 => ?_) (fun hc16 => ?_)
        ·
          refine lv_iconst (v := iZ 0) jx jb d_Share_hasCell_30 rfl ?_
          exact jret _ _ _ (Or.inr (Or.inl rfl)) (by omega) d_Share_hasCell_31
        ·
          refine lv_iload_n jx jb d_Share_hasCell_19 rfl (lv_at jl 1 rfl) ?_
          refine lv_sipush (v := iZ 4096) jx jb d_Share_hasCell_20 (by decide) ?_
          refine z_icmp_ge (tgt := 30) jx jb d_Share_hasCell_23 (by decide) ⟨⟨by omega, by omega⟩, ⟨by decide, by decide⟩⟩ (fun hc23 => ?_) (fun hc23 => ?_)
          ·
            exfalso; omega
          ·
            refine lv_iconst (v := iZ 1) jx jb d_Share_hasCell_26 rfl ?_
            refine lv_goto (tgt := 31) jx jb d_Share_hasCell_27 (by decide) ?_
            exact jret _ _ _ (Or.inr (Or.inr rfl)) (by omega) d_Share_hasCell_31
  ·
    refine z_if_eq (tgt := 30) jx jb d_Share_hasCell_4 (by decide) ⟨by decide, by decide⟩ (fun hc4 => ?_) (fun hc4 => ?_)
    ·
      refine lv_iconst (v := iZ 0) jx jb d_Share_hasCell_30 rfl ?_
      exact jret _ _ _ (Or.inr (Or.inl rfl)) (by omega) d_Share_hasCell_31
    ·
      exact absurd hc4 (by decide)
abbrev rm_Share_pointsOf : Room := { frames := 1, cells := 0, slots := 0, locals := 20 }
set_option maxHeartbeats 4000000 in
set_option maxRecDepth 100000 in
theorem c_Share_pointsOf (l : Launch) (D : va_G) (cI cB cZ : ClassId) (h : Nat) (pP : Nat) (pS : Nat) (pB : Nat) (pA : Nat) (pC : Nat) (pF : Nat) (pN : Nat) (o : Nat) (gP : Nat → Int) (x : Int) (hx1 : 0 ≤ x ∧ x < 256) : Met l y_Share_pointsOf (.code y_Share_pointsOf b_Share_pointsOf 2 (some .int) :: zT) rm_Share_pointsOf (zRc D classes (TY cI cB cZ) [(h, .inr (1, [.ref pP, .ref pS, .ref pB, .ref pA, .ref pC, .ref pF, .ref pN, .int (iZ (o : Int))])), (pP, .inl (cI, 256, .inl (zA gP)))] [.ref h, .int (iZ x)]) (zSi (fun z => z = gP x.toNat)) 0 0 (fun _ => False) := by
  refine z_ofr (by decide) (Nat.le_of_ble_eq_true rfl) (Or.inl rfl) ?_
  intro p e s m args below meth c Q E jP jK jret ls jl
  obtain ⟨jx, jb, jrt, jml, jown, jts, jlk⟩ := E
  have jown : s.vm.findClass R_Share = some m.cls := jown
  have jl : lv_has ls 2 [(0, .ref h), (1, .int (iZ x))] := jl
  refine lv_iload_n jx jb d_Share_pointsOf_0 rfl (lv_at jl 1 rfl) ?_
  refine z_backr (va_runSN (As := [.int (iZ x)]) (rest := []) ⟨jx, jb, jml, jown, jts⟩ (c_isSymbol l D cI cB cZ x (by first | assumption | omega)) (zc_SN 1 jts cd_SC_isSymbol (jK.nest ln_Share_45 rfl) st_SC_isSymbol in_SC hd_SC_isSymbol ⟨Nat.le_of_ble_eq_true rfl, Nat.le_of_ble_eq_true rfl⟩ rfl rfl) (z_preSR jK jP [] rfl) rfl rfl jl.1 rfl (lv_room (Nat.le_of_ble_eq_true rfl)) d_Share_pointsOf_1 ⟨Nat.le_of_ble_eq_true rfl, Nat.le_of_ble_eq_true rfl⟩) (fun z1 hz1 => ?_)
  rcases hz1 with ⟨rfl, hq1⟩ | ⟨rfl, hq1⟩
  ·
    refine z_if_eq (tgt := 16) jx jb d_Share_pointsOf_4 (by decide) ⟨by decide, by decide⟩ (fun hc4 => ?_) (fun hc4 => ?_)
    ·
      exact absurd hc4 (by decide)
    ·
      refine lv_aload_n jx jb d_Share_pointsOf_7 rfl (lv_at jl 0 rfl) ?_
      refine va_get (D := D) (ci := 1) (v := .ref pP) (C := R_Share) (T := F_Share) (N := 8) jx jb jts i_Share jown jK.1 jP 0 rfl rfl 0 (by decide) (jts _ fl_Share_9) (fun _ h9 => h9) rfl d_Share_pointsOf_8 ?_
      refine lv_iload_n jx jb d_Share_pointsOf_11 rfl (lv_at jl 1 rfl) ?_
      refine z_iald jx jb jK.1 jP 1 0 rfl rfl x.toNat (by omega) d_Share_pointsOf_12 ?_
      refine lv_goto (tgt := 17) jx jb d_Share_pointsOf_13 (by decide) ?_
      exact jret _ _ _ (Or.inl rfl) (rfl) d_Share_pointsOf_17
  ·
    exfalso; omega
abbrev rm_Share_weightOf : Room := { frames := 2, cells := 0, slots := 0, locals := 41 }
set_option maxHeartbeats 4000000 in
set_option maxRecDepth 100000 in
theorem c_Share_weightOf (l : Launch) (D : va_G) (cI cB cZ : ClassId) (h : Nat) (pP : Nat) (pS : Nat) (pB : Nat) (pA : Nat) (pC : Nat) (pF : Nat) (pN : Nat) (o : Nat) (gP : Nat → Int) (x : Int) (hx1 : 0 ≤ x ∧ x < 256) (hpr : ∀ k, k < 256 → -1 ≤ gP k ∧ gP k ≤ 65536) : Met l y_Share_weightOf (.code y_Share_weightOf b_Share_weightOf 2 (some .int) :: zT) rm_Share_weightOf (zRc D classes (TY cI cB cZ) [(h, .inr (1, [.ref pP, .ref pS, .ref pB, .ref pA, .ref pC, .ref pF, .ref pN, .int (iZ (o : Int))])), (pP, .inl (cI, 256, .inl (zA gP)))] [.ref h, .int (iZ x)]) (zSi (fun z => z = wgt (gP x.toNat))) 0 0 (fun _ => False) := by
  refine z_ofr (by decide) (Nat.le_of_ble_eq_true rfl) (Or.inl rfl) ?_
  intro p e s m args below meth c Q E jP jK jret ls jl
  obtain ⟨jx, jb, jrt, jml, jown, jts, jlk⟩ := E
  have jown : s.vm.findClass R_Share = some m.cls := jown
  have hpx := hpr x.toNat (by omega)
  have jl : lv_has ls 2 [(0, .ref h), (1, .int (iZ x))] := jl
  refine lv_aload_n jx jb d_Share_weightOf_0 rfl (lv_at jl 0 rfl) ?_
  refine lv_iload_n jx jb d_Share_weightOf_1 rfl (lv_at jl 1 rfl) ?_
  refine z_backe (va_runV (As := [.int (iZ x)]) (rest := []) ⟨jx, jb, jml, jown, jts⟩ (c_Share_pointsOf l D cI cB cZ h pP pS pB pA pC pF pN o gP x (by first | assumption | omega)) (zc_V 1 jts cd_Share_pointsOf lk_Share_49 im_Share_pointsOf se_Share_pointsOf in_Share hd_Share_pointsOf ⟨Nat.le_of_ble_eq_true rfl, Nat.le_of_ble_eq_true rfl⟩ rfl rfl) (z_preVR jK jP [0, 1] rfl rfl rfl) rfl rfl jl.1 rfl (lv_room (Nat.le_of_ble_eq_true rfl)) d_Share_weightOf_2 ⟨Nat.le_of_ble_eq_true rfl, Nat.le_of_ble_eq_true rfl⟩) ?_
  refine z_backe (va_runSN (As := [.int (iZ (gP x.toNat))]) (rest := []) ⟨jx, jb, jml, jown, jts⟩ (c_weight l D cI cB cZ (gP x.toNat) (by first | assumption | omega)) (zc_SN 1 jts cd_SC_weight (jK.nest ln_Share_53 rfl) st_SC_weight in_SC hd_SC_weight ⟨Nat.le_of_ble_eq_true rfl, Nat.le_of_ble_eq_true rfl⟩ rfl rfl) (z_preSR jK jP [] rfl) rfl rfl jl.1 rfl (lv_room (Nat.le_of_ble_eq_true rfl)) d_Share_weightOf_5 ⟨Nat.le_of_ble_eq_true rfl, Nat.le_of_ble_eq_true rfl⟩) ?_
  exact jret _ _ _ (Or.inl rfl) (rfl) d_Share_weightOf_8
abbrev rm_Share_lastSymbol : Room := { frames := 0, cells := 0, slots := 0, locals := 0 }
set_option maxHeartbeats 4000000 in
set_option maxRecDepth 100000 in
theorem c_Share_lastSymbol (l : Launch) (D : va_G) (cI cB cZ : ClassId) (h : Nat) (pP : Nat) (pS : Nat) (pB : Nat) (pA : Nat) (pC : Nat) (pF : Nat) (pN : Nat) (o : Nat) (gP : Nat → Int) (hpr : ∀ k, k < 256 → -1 ≤ gP k ∧ gP k ≤ 65536) : Met l y_Share_lastSymbol (.code y_Share_lastSymbol b_Share_lastSymbol 2 (some .int) :: zT) rm_Share_lastSymbol (zRc D classes (TY cI cB cZ) [(h, .inr (1, [.ref pP, .ref pS, .ref pB, .ref pA, .ref pC, .ref pF, .ref pN, .int (iZ (o : Int))])), (pP, .inl (cI, 256, .inl (zA gP)))] [.ref h]) (zSi (fun z => ∃ n : Nat, z = (n : Int) ∧ n ≤ 255 ∧ (n = 0 ∨ gP n ≠ 0) ∧ ∀ k, n < k → k ≤ 255 → gP k = 0)) 0 0 (fun _ => False) := by
  refine z_ofr (by decide) (Nat.le_of_ble_eq_true rfl) (Or.inl rfl) ?_
  intro p e s m args below meth c Q E jP jK jret ls jl
  obtain ⟨jx, jb, jrt, jml, jown, jts, jlk⟩ := E
  have jown : s.vm.findClass R_Share = some m.cls := jown
  have jl : lv_has ls 2 [(0, .ref h)] := jl
  refine lv_sipush (v := iZ 255) jx jb d_Share_lastSymbol_0 (by decide) ?_
  refine lv_istore_n (lv' := [(1, .int (iZ 255)), (0, .ref h)]) jx jb d_Share_lastSymbol_3 rfl jl (by decide) rfl (fun ls jl => ?_)
  have hloop4 : ∀ (nF : Nat) (n1 : Nat), n1 < nF → (n1 ≤ 255) → (∀ k, n1 < k → k ≤ 255 → gP k = 0) → ∀ ls : Array Slot, lv_has ls 2 [(0, .ref h), (1, .int (iZ (n1 : Int)))] → W p l e rm_Share_lastSymbol s m args below meth c s.heap [] 0 0 Q (F0 m 4 ls []) := by
    intro nF
    induction nF with
    | zero => intro n1 hm; exact absurd hm (Nat.not_lt_zero _)
    | succ nF ih4 =>
      intro n1 hm h1 h2 ls jl
      refine lv_iload_n jx jb d_Share_lastSymbol_4 rfl (lv_at jl 1 rfl) ?_
      refine z_if_le (tgt := 23) jx jb d_Share_lastSymbol_5 (by decide) ⟨by omega, by omega⟩ (fun hc5 => ?_) (fun hc5 => ?_)
      ·
        refine lv_iload_n jx jb d_Share_lastSymbol_23 rfl (lv_at jl 1 rfl) ?_
        exact jret _ _ _ (Or.inl rfl) (⟨n1, rfl, h1, by omega, h2⟩) d_Share_lastSymbol_24
      ·
        refine lv_aload_n jx jb d_Share_lastSymbol_8 rfl (lv_at jl 0 rfl) ?_
        refine va_get (D := D) (ci := 1) (v := .ref pP) (C := R_Share) (T := F_Share) (N := 8) jx jb jts i_Share jown jK.1 jP 0 rfl rfl 0 (by decide) (jts _ fl_Share_9) (fun _ h9 => h9) rfl d_Share_lastSymbol_9 ?_
        refine lv_iload_n jx jb d_Share_lastSymbol_12 rfl (lv_at jl 1 rfl) ?_
        refine z_iald jx jb jK.1 jP 1 0 rfl rfl n1 (by omega) d_Share_lastSymbol_13 ?_
        have hpn := hpr n1 (by omega)
        refine z_if_ne (tgt := 23) jx jb d_Share_lastSymbol_14 (by decide) ⟨by omega, by omega⟩ (fun hc14 => ?_) (fun hc14 => ?_)
        ·
          refine lv_iload_n jx jb d_Share_lastSymbol_23 rfl (lv_at jl 1 rfl) ?_
          exact jret _ _ _ (Or.inl rfl) (⟨n1, rfl, h1, by omega, h2⟩) d_Share_lastSymbol_24
        ·
          refine lv_iinc (v := iZ ((n1 - 1 : Nat) : Int)) (lv' := [(1, .int (iZ ((n1 - 1 : Nat) : Int))), (0, .ref h)]) jx jb d_Share_lastSymbol_17 jl (k := 1) rfl (by rw [show ((n1 - 1 : Nat) : Int) = (n1 : Int) + (-1) from by omega]; exact iZ_add _ _) (by decide) rfl (fun ls jl => ?_)
          refine lv_goto (tgt := 4) jx jb d_Share_lastSymbol_20 (by decide) ?_
          exact ih4 (n1 - 1) (by omega) (by first | assumption | omega) (ls_next h2 hc14) _ (lv_sub jl [1, 0] rfl)
  exact hloop4 (255 + 1) 255 (Nat.lt_succ_self _) (by first | assumption | omega) (fun k a b => absurd a (by omega)) _ (lv_sub jl [1, 0] rfl)
abbrev rm_Share_symbolOf : Room := { frames := 2, cells := 0, slots := 0, locals := 41 }
set_option maxHeartbeats 4000000 in
set_option maxRecDepth 100000 in
theorem c_Share_symbolOf (l : Launch) (D : va_G) (cI cB cZ : ClassId) (h : Nat) (pP : Nat) (pS : Nat) (pB : Nat) (pA : Nat) (pC : Nat) (pF : Nat) (pN : Nat) (o : Nat) (gS : Nat → Int) (k : Int) (ho : o ≤ 12) (ho0 : 0 < o) (hk : 0 ≤ k ∧ k < 2 ^ o) : Met l y_Share_symbolOf (.code y_Share_symbolOf b_Share_symbolOf 2 (some .int) :: zT) rm_Share_symbolOf (zRc D classes (TY cI cB cZ) [(h, .inr (1, [.ref pP, .ref pS, .ref pB, .ref pA, .ref pC, .ref pF, .ref pN, .int (iZ (o : Int))])), (pS, .inl (cI, 4096, .inl (zA gS)))] [.ref h, .int (iZ k)]) (zSi (fun z => z = gS k.toNat)) 0 0 (fun _ => False) := by
  refine z_ofr (by decide) (Nat.le_of_ble_eq_true rfl) (Or.inl rfl) ?_
  intro p e s m args below meth c Q E jP jK jret ls jl
  obtain ⟨jx, jb, jrt, jml, jown, jts, jlk⟩ := E
  have jown : s.vm.findClass R_Share = some m.cls := jown
  have hp12 := p2_le ho
  have jl : lv_has ls 2 [(0, .ref h), (1, .int (iZ k))] := jl
  refine lv_aload_n jx jb d_Share_symbolOf_0 rfl (lv_at jl 0 rfl) ?_
  refine lv_iload_n jx jb d_Share_symbolOf_1 rfl (lv_at jl 1 rfl) ?_
  refine z_backr (va_runV (As := [.int (iZ k)]) (rest := []) ⟨jx, jb, jml, jown, jts⟩ (c_Share_hasCell l D cI cB cZ h pP pS pB pA pC pF pN o k (by first | assumption | omega) (by first | assumption | omega)) (zc_V 1 jts cd_Share_hasCell lk_Share_56 im_Share_hasCell se_Share_hasCell in_Share hd_Share_hasCell ⟨Nat.le_of_ble_eq_true rfl, Nat.le_of_ble_eq_true rfl⟩ rfl rfl) (z_preVR jK jP [0] rfl rfl rfl) rfl rfl jl.1 rfl (lv_room (Nat.le_of_ble_eq_true rfl)) d_Share_symbolOf_2 ⟨Nat.le_of_ble_eq_true rfl, Nat.le_of_ble_eq_true rfl⟩) (fun z2 hz2 => ?_)
  rcases hz2 with ⟨rfl, hq2⟩ | ⟨rfl, hq2⟩
  ·
    refine z_if_eq (tgt := 17) jx jb d_Share_symbolOf_5 (by decide) ⟨by decide, by decide⟩ (fun hc5 => ?_) (fun hc5 => ?_)
    ·
      exact absurd hc5 (by decide)
    ·
      refine lv_aload_n jx jb d_Share_symbolOf_8 rfl (lv_at jl 0 rfl) ?_
      refine va_get (D := D) (ci := 1) (v := .ref pS) (C := R_Share) (T := F_Share) (N := 8) jx jb jts i_Share jown jK.1 jP 0 rfl rfl 1 (by decide) (jts _ fl_Share_15) (fun _ h9 => h9) rfl d_Share_symbolOf_9 ?_
      refine lv_iload_n jx jb d_Share_symbolOf_12 rfl (lv_at jl 1 rfl) ?_
      refine z_iald jx jb jK.1 jP 1 0 rfl rfl k.toNat (by omega) d_Share_symbolOf_13 ?_
      refine lv_goto (tgt := 18) jx jb d_Share_symbolOf_14 (by decide) ?_
      exact jret _ _ _ (Or.inl rfl) (rfl) d_Share_symbolOf_18
  ·
    exfalso; omega
abbrev rm_Share_bitsOf : Room := { frames := 2, cells := 0, slots := 0, locals := 41 }
set_option maxHeartbeats 4000000 in
set_option maxRecDepth 100000 in
theorem c_Share_bitsOf (l : Launch) (D : va_G) (cI cB cZ : ClassId) (h : Nat) (pP : Nat) (pS : Nat) (pB : Nat) (pA : Nat) (pC : Nat) (pF : Nat) (pN : Nat) (o : Nat) (gB : Nat → Int) (k : Int) (ho : o ≤ 12) (ho0 : 0 < o) (hk : 0 ≤ k ∧ k < 2 ^ o) : Met l y_Share_bitsOf (.code y_Share_bitsOf b_Share_bitsOf 2 (some .int) :: zT) rm_Share_bitsOf (zRc D classes (TY cI cB cZ) [(h, .inr (1, [.ref pP, .ref pS, .ref pB, .ref pA, .ref pC, .ref pF, .ref pN, .int (iZ (o : Int))])), (pB, .inl (cI, 4096, .inl (zA gB)))] [.ref h, .int (iZ k)]) (zSi (fun z => z = gB k.toNat)) 0 0 (fun _ => False) := by
  refine z_ofr (by decide) (Nat.le_of_ble_eq_true rfl) (Or.inl rfl) ?_
  intro p e s m args below meth c Q E jP jK jret ls jl
  obtain ⟨jx, jb, jrt, jml, jown, jts, jlk⟩ := E
  have jown : s.vm.findClass R_Share = some m.cls := jown
  have hp12 := p2_le ho
  have jl : lv_has ls 2 [(0, .ref h), (1, .int (iZ k))] := jl
  refine lv_aload_n jx jb d_Share_bitsOf_0 rfl (lv_at jl 0 rfl) ?_
  refine lv_iload_n jx jb d_Share_bitsOf_1 rfl (lv_at jl 1 rfl) ?_
  refine z_backr (va_runV (As := [.int (iZ k)]) (rest := []) ⟨jx, jb, jml, jown, jts⟩ (c_Share_hasCell l D cI cB cZ h pP pS pB pA pC pF pN o k (by first | assumption | omega) (by first | assumption | omega)) (zc_V 1 jts cd_Share_hasCell lk_Share_56 im_Share_hasCell se_Share_hasCell in_Share hd_Share_hasCell ⟨Nat.le_of_ble_eq_true rfl, Nat.le_of_ble_eq_true rfl⟩ rfl rfl) (z_preVR jK jP [0] rfl rfl rfl) rfl rfl jl.1 rfl (lv_room (Nat.le_of_ble_eq_true rfl)) d_Share_bitsOf_2 ⟨Nat.le_of_ble_eq_true rfl, Nat.le_of_ble_eq_true rfl⟩) (fun z2 hz2 => ?_)
  rcases hz2 with ⟨rfl, hq2⟩ | ⟨rfl, hq2⟩
  ·
    refine z_if_eq (tgt := 17) jx jb d_Share_bitsOf_5 (by decide) ⟨by decide, by decide⟩ (fun hc5 => ?_) (fun hc5 => ?_)
    ·
      exact absurd hc5 (by decide)
    ·
      refine lv_aload_n jx jb d_Share_bitsOf_8 rfl (lv_at jl 0 rfl) ?_
      refine va_get (D := D) (ci := 1) (v := .ref pB) (C := R_Share) (T := F_Share) (N := 8) jx jb jts i_Share jown jK.1 jP 0 rfl rfl 2 (by decide) (jts _ fl_Share_18) (fun _ h9 => h9) rfl d_Share_bitsOf_9 ?_
      refine lv_iload_n jx jb d_Share_bitsOf_12 rfl (lv_at jl 1 rfl) ?_
      refine z_iald jx jb jK.1 jP 1 0 rfl rfl k.toNat (by omega) d_Share_bitsOf_13 ?_
      refine lv_goto (tgt := 18) jx jb d_Share_bitsOf_14 (by decide) ?_
      exact jret _ _ _ (Or.inl rfl) (rfl) d_Share_bitsOf_18
  ·
    exfalso; omega
abbrev rm_Share_baseOf : Room := { frames := 2, cells := 0, slots := 0, locals := 41 }
set_option maxHeartbeats 4000000 in
set_option maxRecDepth 100000 in
theorem c_Share_baseOf (l : Launch) (D : va_G) (cI cB cZ : ClassId) (h : Nat) (pP : Nat) (pS : Nat) (pB : Nat) (pA : Nat) (pC : Nat) (pF : Nat) (pN : Nat) (o : Nat) (gA : Nat → Int) (k : Int) (ho : o ≤ 12) (ho0 : 0 < o) (hk : 0 ≤ k ∧ k < 2 ^ o) : Met l y_Share_baseOf (.code y_Share_baseOf b_Share_baseOf 2 (some .int) :: zT) rm_Share_baseOf (zRc D classes (TY cI cB cZ) [(h, .inr (1, [.ref pP, .ref pS, .ref pB, .ref pA, .ref pC, .ref pF, .ref pN, .int (iZ (o : Int))])), (pA, .inl (cI, 4096, .inl (zA gA)))] [.ref h, .int (iZ k)]) (zSi (fun z => z = gA k.toNat)) 0 0 (fun _ => False) := by
  refine z_ofr (by decide) (Nat.le_of_ble_eq_true rfl) (Or.inl rfl) ?_
  intro p e s m args below meth c Q E jP jK jret ls jl
  obtain ⟨jx, jb, jrt, jml, jown, jts, jlk⟩ := E
  have jown : s.vm.findClass R_Share = some m.cls := jown
  have hp12 := p2_le ho
  have jl : lv_has ls 2 [(0, .ref h), (1, .int (iZ k))] := jl
  refine lv_aload_n jx jb d_Share_baseOf_0 rfl (lv_at jl 0 rfl) ?_
  refine lv_iload_n jx jb d_Share_baseOf_1 rfl (lv_at jl 1 rfl) ?_
  refine z_backr (va_runV (As := [.int (iZ k)]) (rest := []) ⟨jx, jb, jml, jown, jts⟩ (c_Share_hasCell l D cI cB cZ h pP pS pB pA pC pF pN o k (by first | assumption | omega) (by first | assumption | omega)) (zc_V 1 jts cd_Share_hasCell lk_Share_56 im_Share_hasCell se_Share_hasCell in_Share hd_Share_hasCell ⟨Nat.le_of_ble_eq_true rfl, Nat.le_of_ble_eq_true rfl⟩ rfl rfl) (z_preVR jK jP [0] rfl rfl rfl) rfl rfl jl.1 rfl (lv_room (Nat.le_of_ble_eq_true rfl)) d_Share_baseOf_2 ⟨Nat.le_of_ble_eq_true rfl, Nat.le_of_ble_eq_true rfl⟩) (fun z2 hz2 => ?_)
  rcases hz2 with ⟨rfl, hq2⟩ | ⟨rfl, hq2⟩
  ·
    refine z_if_eq (tgt := 17) jx jb d_Share_baseOf_5 (by decide) ⟨by decide, by decide⟩ (fun hc5 => ?_) (fun hc5 => ?_)
    ·
      exact absurd hc5 (by decide)
    ·
      refine lv_aload_n jx jb d_Share_baseOf_8 rfl (lv_at jl 0 rfl) ?_
      refine va_get (D := D) (ci := 1) (v := .ref pA) (C := R_Share) (T := F_Share) (N := 8) jx jb jts i_Share jown jK.1 jP 0 rfl rfl 3 (by decide) (jts _ fl_Share_21) (fun _ h9 => h9) rfl d_Share_baseOf_9 ?_
      refine lv_iload_n jx jb d_Share_baseOf_12 rfl (lv_at jl 1 rfl) ?_
      refine z_iald jx jb jK.1 jP 1 0 rfl rfl k.toNat (by omega) d_Share_baseOf_13 ?_
      refine lv_goto (tgt := 18) jx jb d_Share_baseOf_14 (by decide) ?_
      exact jret _ _ _ (Or.inl rfl) (rfl) d_Share_baseOf_18
  ·
    exfalso; omega
abbrev rm_Share_slotOf : Room := { frames := 1, cells := 0, slots := 0, locals := 20 }
set_option maxHeartbeats 4000000 in
set_option maxRecDepth 100000 in
theorem c_Share_slotOf (l : Launch) (D : va_G) (cI cB cZ : ClassId) (h : Nat) (pP : Nat) (pS : Nat) (pB : Nat) (pA : Nat) (pC : Nat) (pF : Nat) (pN : Nat) (o : Nat) (gP : Nat → Int) (gF : Nat → Int) (x : Int) (y : Int) (hx1 : 0 ≤ x ∧ x < 256) (hpr : ∀ k, k < 256 → -1 ≤ gP k ∧ gP k ≤ 65536) : Met l y_Share_slotOf (.code y_Share_slotOf b_Share_slotOf 3 (some .int) :: zT) rm_Share_slotOf (zRc D classes (TY cI cB cZ) [(h, .inr (1, [.ref pP, .ref pS, .ref pB, .ref pA, .ref pC, .ref pF, .ref pN, .int (iZ (o : Int))])), (pP, .inl (cI, 256, .inl (zA gP))), (pF, .inl (cI, 256, .inl (zA gF)))] [.ref h, .int (iZ x), .int (iZ y)]) (zSi (fun z => z = gF x.toNat + y - wgt (gP x.toNat))) 0 0 (fun _ => False) := by
  refine z_ofr (by decide) (Nat.le_of_ble_eq_true rfl) (Or.inl rfl) ?_
  intro p e s m args below meth c Q E jP jK jret ls jl
  obtain ⟨jx, jb, jrt, jml, jown, jts, jlk⟩ := E
  have jown : s.vm.findClass R_Share = some m.cls := jown
  have hpx := hpr x.toNat (by omega)
  have jl : lv_has ls 3 [(0, .ref h), (1, .int (iZ x)), (2, .int (iZ y))] := jl
  refine lv_iload_n jx jb d_Share_slotOf_0 rfl (lv_at jl 1 rfl) ?_
  refine z_backr (va_runSN (As := [.int (iZ x)]) (rest := []) ⟨jx, jb, jml, jown, jts⟩ (c_isSymbol l D cI cB cZ x (by first | assumption | omega)) (zc_SN 1 jts cd_SC_isSymbol (jK.nest ln_Share_45 rfl) st_SC_isSymbol in_SC hd_SC_isSymbol ⟨Nat.le_of_ble_eq_true rfl, Nat.le_of_ble_eq_true rfl⟩ rfl rfl) (z_preSR jK jP [] rfl) rfl rfl jl.1 rfl (lv_room (Nat.le_of_ble_eq_true rfl)) d_Share_slotOf_1 ⟨Nat.le_of_ble_eq_true rfl, Nat.le_of_ble_eq_true rfl⟩) (fun z1 hz1 => ?_)
  rcases hz1 with ⟨rfl, hq1⟩ | ⟨rfl, hq1⟩
  ·
    refine z_if_eq (tgt := 28) jx jb d_Share_slotOf_4 (by decide) ⟨by decide, by decide⟩ (fun hc4 => ?_) (fun hc4 => ?_)
    ·
      exact absurd hc4 (by decide)
    ·
      refine lv_aload_n jx jb d_Share_slotOf_7 rfl (lv_at jl 0 rfl) ?_
      refine va_get (D := D) (ci := 1) (v := .ref pF) (C := R_Share) (T := F_Share) (N := 8) jx jb jts i_Share jown jK.1 jP 0 rfl rfl 5 (by decide) (jts _ fl_Share_27) (fun _ h9 => h9) rfl d_Share_slotOf_8 ?_
      refine lv_iload_n jx jb d_Share_slotOf_11 rfl (lv_at jl 1 rfl) ?_
      refine z_iald jx jb jK.1 jP 2 0 rfl rfl x.toNat (by omega) d_Share_slotOf_12 ?_
      refine lv_iload_n jx jb d_Share_slotOf_13 rfl (lv_at jl 2 rfl) ?_
      refine z_iadd jx jb d_Share_slotOf_14 ?_
      refine lv_aload_n jx jb d_Share_slotOf_15 rfl (lv_at jl 0 rfl) ?_
      refine va_get (D := D) (ci := 1) (v := .ref pP) (C := R_Share) (T := F_Share) (N := 8) jx jb jts i_Share jown jK.1 jP 0 rfl rfl 0 (by decide) (jts _ fl_Share_9) (fun _ h9 => h9) rfl d_Share_slotOf_16 ?_
      refine lv_iload_n jx jb d_Share_slotOf_19 rfl (lv_at jl 1 rfl) ?_
      refine z_iald jx jb jK.1 jP 1 0 rfl rfl x.toNat (by omega) d_Share_slotOf_20 ?_
      refine z_backe (va_runSN (As := [.int (iZ (gP x.toNat))]) (rest := [.int (iZ ((gF x.toNat) + y))]) ⟨jx, jb, jml, jown, jts⟩ (c_weight l D cI cB cZ (gP x.toNat) (by first | assumption | omega)) (zc_SN 1 jts cd_SC_weight (jK.nest ln_Share_53 rfl) st_SC_weight in_SC hd_SC_weight ⟨Nat.le_of_ble_eq_true rfl, Nat.le_of_ble_eq_true rfl⟩ rfl rfl) (z_preSR jK jP [] rfl) rfl rfl jl.1 rfl (lv_room (Nat.le_of_ble_eq_true rfl)) d_Share_slotOf_21 ⟨Nat.le_of_ble_eq_true rfl, Nat.le_of_ble_eq_true rfl⟩) ?_
      refine z_isub jx jb d_Share_slotOf_24 ?_
      refine lv_goto (tgt := 29) jx jb d_Share_slotOf_25 (by decide) ?_
      exact jret _ _ _ (Or.inl rfl) (rfl) d_Share_slotOf_29
  ·
    exfalso; omega
abbrev rm_Share_cellOf : Room := { frames := 2, cells := 0, slots := 0, locals := 42 }
set_option maxHeartbeats 4000000 in
set_option maxRecDepth 100000 in
theorem c_Share_cellOf (l : Launch) (D : va_G) (cI cB cZ : ClassId) (h : Nat) (pP : Nat) (pS : Nat) (pB : Nat) (pA : Nat) (pC : Nat) (pF : Nat) (pN : Nat) (o : Nat) (gP : Nat → Int) (gF : Nat → Int) (gC : Nat → Int) (x : Int) (y : Int) (ho : o ≤ 12) (ho0 : 0 < o) (hx1 : 0 ≤ x ∧ x < 256) (hpr : ∀ k, k < 256 → -1 ≤ gP k ∧ gP k ≤ 65536) (hs : 0 ≤ gF x.toNat + y - wgt (gP x.toNat) ∧ gF x.toNat + y - wgt (gP x.toNat) < 2 ^ o) : Met l y_Share_cellOf (.code y_Share_cellOf b_Share_cellOf 4 (some .int) :: zT) rm_Share_cellOf (zRc D classes (TY cI cB cZ) [(h, .inr (1, [.ref pP, .ref pS, .ref pB, .ref pA, .ref pC, .ref pF, .ref pN, .int (iZ (o : Int))])), (pP, .inl (cI, 256, .inl (zA gP))), (pF, .inl (cI, 256, .inl (zA gF))), (pC, .inl (cI, 4096, .inl (zA gC)))] [.ref h, .int (iZ x), .int (iZ y)]) (zSi (fun z => z = gC (gF x.toNat + y - wgt (gP x.toNat)).toNat)) 0 0 (fun _ => False) := by
  refine z_ofr (by decide) (Nat.le_of_ble_eq_true rfl) (Or.inl rfl) ?_
  intro p e s m args below meth c Q E jP jK jret ls jl
  obtain ⟨jx, jb, jrt, jml, jown, jts, jlk⟩ := E
  have jown : s.vm.findClass R_Share = some m.cls := jown
  have hp12 := p2_le ho
  have jl : lv_has ls 4 [(0, .ref h), (1, .int (iZ x)), (2, .int (iZ y))] := jl
  refine lv_aload_n jx jb d_Share_cellOf_0 rfl (lv_at jl 0 rfl) ?_
  refine lv_iload_n jx jb d_Share_cellOf_1 rfl (lv_at jl 1 rfl) ?_
  refine lv_iload_n jx jb d_Share_cellOf_2 rfl (lv_at jl 2 rfl) ?_
  refine z_backe (va_runV (As := [.int (iZ x), .int (iZ y)]) (rest := []) ⟨jx, jb, jml, jown, jts⟩ (c_Share_slotOf l D cI cB cZ h pP pS pB pA pC pF pN o gP gF x y (by first | assumption | omega) (by first | assumption | omega)) (zc_V 2 jts cd_Share_slotOf lk_Share_59 im_Share_slotOf se_Share_slotOf in_Share hd_Share_slotOf ⟨Nat.le_of_ble_eq_true rfl, Nat.le_of_ble_eq_true rfl⟩ rfl rfl) (z_preVR jK jP [0, 1, 2] rfl rfl rfl) rfl rfl jl.1 rfl (lv_room (Nat.le_of_ble_eq_true rfl)) d_Share_cellOf_3 ⟨Nat.le_of_ble_eq_true rfl, Nat.le_of_ble_eq_true rfl⟩) ?_
  refine lv_istore_n (lv' := [(3, .int (iZ (gF x.toNat + y - wgt (gP x.toNat)))), (0, .ref h), (1, .int (iZ x)), (2, .int (iZ y))]) jx jb d_Share_cellOf_6 rfl jl (by decide) rfl (fun ls jl => ?_)
  refine lv_aload_n jx jb d_Share_cellOf_7 rfl (lv_at jl 1 rfl) ?_
  refine lv_iload_n jx jb d_Share_cellOf_8 rfl (lv_at jl 0 rfl) ?_
  refine z_backr (va_runV (As := [.int (iZ (gF x.toNat + y - wgt (gP x.toNat)))]) (rest := []) ⟨jx, jb, jml, jown, jts⟩ (c_Share_hasCell l D cI cB cZ h pP pS pB pA pC pF pN o (gF x.toNat + y - wgt (gP x.toNat)) (by first | assumption | omega) (by first | assumption | omega)) (zc_V 1 jts cd_Share_hasCell lk_Share_56 im_Share_hasCell se_Share_hasCell in_Share hd_Share_hasCell ⟨Nat.le_of_ble_eq_true rfl, Nat.le_of_ble_eq_true rfl⟩ rfl rfl) (z_preVR jK jP [0] rfl rfl rfl) rfl rfl jl.1 rfl (lv_room (Nat.le_of_ble_eq_true rfl)) d_Share_cellOf_9 ⟨Nat.le_of_ble_eq_true rfl, Nat.le_of_ble_eq_true rfl⟩) (fun z9 hz9 => ?_)
  rcases hz9 with ⟨rfl, hq9⟩ | ⟨rfl, hq9⟩
  ·
    refine z_if_eq (tgt := 24) jx jb d_Share_cellOf_12 (by decide) ⟨by decide, by decide⟩ (fun hc12 => ?_) (fun hc12 => ?_)
    ·
      exact absurd hc12 (by decide)
    ·
      refine lv_aload_n jx jb d_Share_cellOf_15 rfl (lv_at jl 1 rfl) ?_
      refine va_get (D := D) (ci := 1) (v := .ref pC) (C := R_Share) (T := F_Share) (N := 8) jx jb jts i_Share jown jK.1 jP 0 rfl rfl 4 (by decide) (jts _ fl_Share_24) (fun _ h9 => h9) rfl d_Share_cellOf_16 ?_
      refine lv_iload_n jx jb d_Share_cellOf_19 rfl (lv_at jl 0 rfl) ?_
      refine z_iald jx jb jK.1 jP 3 0 rfl rfl ((gF x.toNat + y - wgt (gP x.toNat)).toNat) (by omega) d_Share_cellOf_20 ?_
      refine lv_goto (tgt := 25) jx jb d_Share_cellOf_21 (by decide) ?_
      exact jret _ _ _ (Or.inl rfl) (rfl) d_Share_cellOf_25
  ·
    exfalso; omega
abbrev rm_Share_init : Room := { frames := 1, cells := 7, slots := 17152, locals := 24 }
set_option maxHeartbeats 4000000 in
set_option maxRecDepth 100000 in
theorem c_Share_init (l : Launch) (D : va_G) (cI cB cZ : ClassId) (sz : Nat) (h : Nat) : Met l y_Share_init (.code y_Share_init b_Share_init 1 none :: zT) rm_Share_init (zPc D classes (TY cI cB cZ) [(h, .inr (1, [.null, .null, .null, .null, .null, .null, .null, .int (iZ 0)]))] sz [.ref h]) (zFv (S := Nat × Nat × Nat × Nat × Nat × Nat × Nat) D classes (fun u => True) (fun u => [(h, .inr (1, [.ref u.1, .ref u.2.1, .ref u.2.2.1, .ref u.2.2.2.1, .ref u.2.2.2.2.1, .ref u.2.2.2.2.2.1, .ref u.2.2.2.2.2.2, .int (iZ 0)])), (u.1, .inl (cI, 256, .inl (zA (fun _ => 0)))), (u.2.1, .inl (cI, 4096, .inl (zA (fun _ => 0)))), (u.2.2.1, .inl (cI, 4096, .inl (zA (fun _ => 0)))), (u.2.2.2.1, .inl (cI, 4096, .inl (zA (fun _ => 0)))), (u.2.2.2.2.1, .inl (cI, 4096, .inl (zA (fun _ => 0)))), (u.2.2.2.2.2.1, .inl (cI, 256, .inl (zA (fun _ => 0)))), (u.2.2.2.2.2.2, .inl (cI, 256, .inl (zA (fun _ => 0))))]) (va_A [(h, .inr (1, [.null, .null, .null, .null, .null, .null, .null, .int (iZ 0)]))] sz)) 7 17152 (va_A [(h, .inr (1, [.null, .null, .null, .null, .null, .null, .null, .int (iZ 0)]))] sz) := by
  refine z_ofv (by decide) (Nat.le_of_ble_eq_true rfl) rfl ?_
  intro p e s m args below meth c A Q E jmn jA jK jret H locs jP jD jS ls jl
  obtain ⟨jx, jb, jrt, jml, jown, jts, jlk⟩ := E
  have jown : s.vm.findClass R_Share = some m.cls := jown
  have jl : lv_has ls 1 [(0, .ref h)] := jl
  refine lv_aload_n jx jb d_Share_init_0 rfl (lv_at jl 0 rfl) ?_
  refine W.objInit jx jb jown (jts _ lk_Share_3) (jts _ im_objectInit) (jts _ cd_objectInit) rfl (by rw [jml]; exact jl.1) rfl d_Share_init_1 (Nat.le_of_ble_eq_true rfl) (Nat.le_of_ble_eq_true rfl) ?_
  refine W.eq (g2 := F0 m 4 ls []) rfl ?_
  refine lv_aload_n jx jb d_Share_init_4 rfl (lv_at jl 0 rfl) ?_
  refine lv_sipush (v := iZ 256) jx jb d_Share_init_5 (by decide) ?_
  refine z_newa jx jb (jts _ ac_int) rfl rfl rfl jK.1 jP jD jS jA 0 rfl 256 ⟨rfl, by decide⟩ (Nat.le_of_ble_eq_true rfl) (Nat.le_of_ble_eq_true rfl) d_Share_init_8 (fun w8 H jP jD jS => ?_)
  have jP : va_P D classes [(h, .inr (1, [.null, .null, .null, .null, .null, .null, .null, .int (iZ 0)])), (w8, .inl (cI, 256, .inl (zA (fun _ => 0))))] H := jP
  have jD : va_D A [(h, .inr (1, [.null, .null, .null, .null, .null, .null, .null, .int (iZ 0)])), (w8, .inl (cI, 256, .inl (zA (fun _ => 0))))] := jD
  refine va_putF (D := D) (ci := 1) (v := .ref w8) (ty := (.array .int)) (C := R_Share) (T := F_Share) (N := 8) jx jb jts i_Share t_Share t_Share_ok n_Share jown jK.1 jP jD jS 0 rfl rfl 0 (by decide) (jts _ fl_Share_9) (fun _ h9 => h9) rfl jmn rfl (by decide +kernel) rfl rfl (Nat.le_of_ble_eq_true rfl) d_Share_init_10 (fun H locs jP jD jS => ?_)
  have jP : va_P D classes [(h, .inr (1, [.ref w8, .null, .null, .null, .null, .null, .null, .int (iZ 0)])), (w8, .inl (cI, 256, .inl (zA (fun _ => 0))))] H := jP
  have jD : va_D A [(h, .inr (1, [.ref w8, .null, .null, .null, .null, .null, .null, .int (iZ 0)])), (w8, .inl (cI, 256, .inl (zA (fun _ => 0))))] := jD
  refine lv_aload_n jx jb d_Share_init_13 rfl (lv_at jl 0 rfl) ?_
  refine lv_sipush (v := iZ 4096) jx jb d_Share_init_14 (by decide) ?_
  refine z_newa jx jb (jts _ ac_int) rfl rfl rfl jK.1 jP jD jS jA 0 rfl 4096 ⟨rfl, by decide⟩ (Nat.le_of_ble_eq_true rfl) (Nat.le_of_ble_eq_true rfl) d_Share_init_17 (fun w17 H jP jD jS => ?_)
  have jP : va_P D classes [(h, .inr (1, [.ref w8, .null, .null, .null, .null, .null, .null, .int (iZ 0)])), (w8, .inl (cI, 256, .inl (zA (fun _ => 0)))), (w17, .inl (cI, 4096, .inl (zA (fun _ => 0))))] H := jP
  have jD : va_D A [(h, .inr (1, [.ref w8, .null, .null, .null, .null, .null, .null, .int (iZ 0)])), (w8, .inl (cI, 256, .inl (zA (fun _ => 0)))), (w17, .inl (cI, 4096, .inl (zA (fun _ => 0))))] := jD
  refine va_putF (D := D) (ci := 1) (v := .ref w17) (ty := (.array .int)) (C := R_Share) (T := F_Share) (N := 8) jx jb jts i_Share t_Share t_Share_ok n_Share jown jK.1 jP jD jS 0 rfl rfl 1 (by decide) (jts _ fl_Share_15) (fun _ h9 => h9) rfl jmn rfl (by decide +kernel) rfl rfl (Nat.le_of_ble_eq_true rfl) d_Share_init_19 (fun H locs jP jD jS => ?_)
  have jP : va_P D classes [(h, .inr (1, [.ref w8, .ref w17, .null, .null, .null, .null, .null, .int (iZ 0)])), (w8, .inl (cI, 256, .inl (zA (fun _ => 0)))), (w17, .inl (cI, 4096, .inl (zA (fun _ => 0))))] H := jP
  have jD : va_D A [(h, .inr (1, [.ref w8, .ref w17, .null, .null, .null, .null, .null, .int (iZ 0)])), (w8, .inl (cI, 256, .inl (zA (fun _ => 0)))), (w17, .inl (cI, 4096, .inl (zA (fun _ => 0))))] := jD
  refine lv_aload_n jx jb d_Share_init_22 rfl (lv_at jl 0 rfl) ?_
  refine lv_sipush (v := iZ 4096) jx jb d_Share_init_23 (by decide) ?_
  refine z_newa jx jb (jts _ ac_int) rfl rfl rfl jK.1 jP jD jS jA 0 rfl 4096 ⟨rfl, by decide⟩ (Nat.le_of_ble_eq_true rfl) (Nat.le_of_ble_eq_true rfl) d_Share_init_26 (fun w26 H jP jD jS => ?_)
  have jP : va_P D classes [(h, .inr (1, [.ref w8, .ref w17, .null, .null, .null, .null, .null, .int (iZ 0)])), (w8, .inl (cI, 256, .inl (zA (fun _ => 0)))), (w17, .inl (cI, 4096, .inl (zA (fun _ => 0)))), (w26, .inl (cI, 4096, .inl (zA (fun _ => 0))))] H := jP
  have jD : va_D A [(h, .inr (1, [.ref w8, .ref w17, .null, .null, .null, .null, .null, .int (iZ 0)])), (w8, .inl (cI, 256, .inl (zA (fun _ => 0)))), (w17, .inl (cI, 4096, .inl (zA (fun _ => 0)))), (w26, .inl (cI, 4096, .inl (zA (fun _ => 0))))] := jD
  refine va_putF (D := D) (ci := 1) (v := .ref w26) (ty := (.array .int)) (C := R_Share) (T := F_Share) (N := 8) jx jb jts i_Share t_Share t_Share_ok n_Share jown jK.1 jP jD jS 0 rfl rfl 2 (by decide) (jts _ fl_Share_18) (fun _ h9 => h9) rfl jmn rfl (by decide +kernel) rfl rfl (Nat.le_of_ble_eq_true rfl) d_Share_init_28 (fun H locs jP jD jS => ?_)
  have jP : va_P D classes [(h, .inr (1, [.ref w8, .ref w17, .ref w26, .null, .null, .null, .null, .int (iZ 0)])), (w8, .inl (cI, 256, .inl (zA (fun _ => 0)))), (w17, .inl (cI, 4096, .inl (zA (fun _ => 0)))), (w26, .inl (cI, 4096, .inl (zA (fun _ => 0))))] H := jP
  have jD : va_D A [(h, .inr (1, [.ref w8, .ref w17, .ref w26, .null, .null, .null, .null, .int (iZ 0)])), (w8, .inl (cI, 256, .inl (zA (fun _ => 0)))), (w17, .inl (cI, 4096, .inl (zA (fun _ => 0)))), (w26, .inl (cI, 4096, .inl (zA (fun _ => 0))))] := jD
  refine lv_aload_n jx jb d_Share_init_31 rfl (lv_at jl 0 rfl) ?_
  refine lv_sipush (v := iZ 4096) jx jb d_Share_init_32 (by decide) ?_
  refine z_newa jx jb (jts _ ac_int) rfl rfl rfl jK.1 jP jD jS jA 0 rfl 4096 ⟨rfl, by decide⟩ (Nat.le_of_ble_eq_true rfl) (Nat.le_of_ble_eq_true rfl) d_Share_init_35 (fun w35 H jP jD jS => ?_)
  have jP : va_P D classes [(h, .inr (1, [.ref w8, .ref w17, .ref w26, .null, .null, .null, .null, .int (iZ 0)])), (w8, .inl (cI, 256, .inl (zA (fun _ => 0)))), (w17, .inl (cI, 4096, .inl (zA (fun _ => 0)))), (w26, .inl (cI, 4096, .inl (zA (fun _ => 0)))), (w35, .inl (cI, 4096, .inl (zA (fun _ => 0))))] H := jP
  have jD : va_D A [(h, .inr (1, [.ref w8, .ref w17, .ref w26, .null, .null, .null, .null, .int (iZ 0)])), (w8, .inl (cI, 256, .inl (zA (fun _ => 0)))), (w17, .inl (cI, 4096, .inl (zA (fun _ => 0)))), (w26, .inl (cI, 4096, .inl (zA (fun _ => 0)))), (w35, .inl (cI, 4096, .inl (zA (fun _ => 0))))] := jD
  refine va_putF (D := D) (ci := 1) (v := .ref w35) (ty := (.array .int)) (C := R_Share) (T := F_Share) (N := 8) jx jb jts i_Share t_Share t_Share_ok n_Share jown jK.1 jP jD jS 0 rfl rfl 3 (by decide) (jts _ fl_Share_21) (fun _ h9 => h9) rfl jmn rfl (by decide +kernel) rfl rfl (Nat.le_of_ble_eq_true rfl) d_Share_init_37 (fun H locs jP jD jS => ?_)
  have jP : va_P D classes [(h, .inr (1, [.ref w8, .ref w17, .ref w26, .ref w35, .null, .null, .null, .int (iZ 0)])), (w8, .inl (cI, 256, .inl (zA (fun _ => 0)))), (w17, .inl (cI, 4096, .inl (zA (fun _ => 0)))), (w26, .inl (cI, 4096, .inl (zA (fun _ => 0)))), (w35, .inl (cI, 4096, .inl (zA (fun _ => 0))))] H := jP
  have jD : va_D A [(h, .inr (1, [.ref w8, .ref w17, .ref w26, .ref w35, .null, .null, .null, .int (iZ 0)])), (w8, .inl (cI, 256, .inl (zA (fun _ => 0)))), (w17, .inl (cI, 4096, .inl (zA (fun _ => 0)))), (w26, .inl (cI, 4096, .inl (zA (fun _ => 0)))), (w35, .inl (cI, 4096, .inl (zA (fun _ => 0))))] := jD
  refine lv_aload_n jx jb d_Share_init_40 rfl (lv_at jl 0 rfl) ?_
  refine lv_sipush (v := iZ 4096) jx jb d_Share_init_41 (by decide) ?_
  refine z_newa jx jb (jts _ ac_int) rfl rfl rfl jK.1 jP jD jS jA 0 rfl 4096 ⟨rfl, by decide⟩ (Nat.le_of_ble_eq_true rfl) (Nat.le_of_ble_eq_true rfl) d_Share_init_44 (fun w44 H jP jD jS => ?_)
  have jP : va_P D classes [(h, .inr (1, [.ref w8, .ref w17, .ref w26, .ref w35, .null, .null, .null, .int (iZ 0)])), (w8, .inl (cI, 256, .inl (zA (fun _ => 0)))), (w17, .inl (cI, 4096, .inl (zA (fun _ => 0)))), (w26, .inl (cI, 4096, .inl (zA (fun _ => 0)))), (w35, .inl (cI, 4096, .inl (zA (fun _ => 0)))), (w44, .inl (cI, 4096, .inl (zA (fun _ => 0))))] H := jP
  have jD : va_D A [(h, .inr (1, [.ref w8, .ref w17, .ref w26, .ref w35, .null, .null, .null, .int (iZ 0)])), (w8, .inl (cI, 256, .inl (zA (fun _ => 0)))), (w17, .inl (cI, 4096, .inl (zA (fun _ => 0)))), (w26, .inl (cI, 4096, .inl (zA (fun _ => 0)))), (w35, .inl (cI, 4096, .inl (zA (fun _ => 0)))), (w44, .inl (cI, 4096, .inl (zA (fun _ => 0))))] := jD
  refine va_putF (D := D) (ci := 1) (v := .ref w44) (ty := (.array .int)) (C := R_Share) (T := F_Share) (N := 8) jx jb jts i_Share t_Share t_Share_ok n_Share jown jK.1 jP jD jS 0 rfl rfl 4 (by decide) (jts _ fl_Share_24) (fun _ h9 => h9) rfl jmn rfl (by decide +kernel) rfl rfl (Nat.le_of_ble_eq_true rfl) d_Share_init_46 (fun H locs jP jD jS => ?_)
  have jP : va_P D classes [(h, .inr (1, [.ref w8, .ref w17, .ref w26, .ref w35, .ref w44, .null, .null, .int (iZ 0)])), (w8, .inl (cI, 256, .inl (zA (fun _ => 0)))), (w17, .inl (cI, 4096, .inl (zA (fun _ => 0)))), (w26, .inl (cI, 4096, .inl (zA (fun _ => 0)))), (w35, .inl (cI, 4096, .inl (zA (fun _ => 0)))), (w44, .inl (cI, 4096, .inl (zA (fun _ => 0))))] H := jP
  have jD : va_D A [(h, .inr (1, [.ref w8, .ref w17, .ref w26, .ref w35, .ref w44, .null, .null, .int (iZ 0)])), (w8, .inl (cI, 256, .inl (zA (fun _ => 0)))), (w17, .inl (cI, 4096, .inl (zA (fun _ => 0)))), (w26, .inl (cI, 4096, .inl (zA (fun _ => 0)))), (w35, .inl (cI, 4096, .inl (zA (fun _ => 0)))), (w44, .inl (cI, 4096, .inl (zA (fun _ => 0))))] := jD
  refine lv_aload_n jx jb d_Share_init_49 rfl (lv_at jl 0 rfl) ?_
  refine lv_sipush (v := iZ 256) jx jb d_Share_init_50 (by decide) ?_
  refine z_newa jx jb (jts _ ac_int) rfl rfl rfl jK.1 jP jD jS jA 0 rfl 256 ⟨rfl, by decide⟩ (Nat.le_of_ble_eq_true rfl) (Nat.le_of_ble_eq_true rfl) d_Share_init_53 (fun w53 H jP jD jS => ?_)
  have jP : va_P D classes [(h, .inr (1, [.ref w8, .ref w17, .ref w26, .ref w35, .ref w44, .null, .null, .int (iZ 0)])), (w8, .inl (cI, 256, .inl (zA (fun _ => 0)))), (w17, .inl (cI, 4096, .inl (zA (fun _ => 0)))), (w26, .inl (cI, 4096, .inl (zA (fun _ => 0)))), (w35, .inl (cI, 4096, .inl (zA (fun _ => 0)))), (w44, .inl (cI, 4096, .inl (zA (fun _ => 0)))), (w53, .inl (cI, 256, .inl (zA (fun _ => 0))))] H := jP
  have jD : va_D A [(h, .inr (1, [.ref w8, .ref w17, .ref w26, .ref w35, .ref w44, .null, .null, .int (iZ 0)])), (w8, .inl (cI, 256, .inl (zA (fun _ => 0)))), (w17, .inl (cI, 4096, .inl (zA (fun _ => 0)))), (w26, .inl (cI, 4096, .inl (zA (fun _ => 0)))), (w35, .inl (cI, 4096, .inl (zA (fun _ => 0)))), (w44, .inl (cI, 4096, .inl (zA (fun _ => 0)))), (w53, .inl (cI, 256, .inl (zA (fun _ => 0))))] := jD
  refine va_putF (D := D) (ci := 1) (v := .ref w53) (ty := (.array .int)) (C := R_Share) (T := F_Share) (N := 8) jx jb jts i_Share t_Share t_Share_ok n_Share jown jK.1 jP jD jS 0 rfl rfl 5 (by decide) (jts _ fl_Share_27) (fun _ h9 => h9) rfl jmn rfl (by decide +kernel) rfl rfl (Nat.le_of_ble_eq_true rfl) d_Share_init_55 (fun H locs jP jD jS => ?_)
  have jP : va_P D classes [(h, .inr (1, [.ref w8, .ref w17, .ref w26, .ref w35, .ref w44, .ref w53, .null, .int (iZ 0)])), (w8, .inl (cI, 256, .inl (zA (fun _ => 0)))), (w17, .inl (cI, 4096, .inl (zA (fun _ => 0)))), (w26, .inl (cI, 4096, .inl (zA (fun _ => 0)))), (w35, .inl (cI, 4096, .inl (zA (fun _ => 0)))), (w44, .inl (cI, 4096, .inl (zA (fun _ => 0)))), (w53, .inl (cI, 256, .inl (zA (fun _ => 0))))] H := jP
  have jD : va_D A [(h, .inr (1, [.ref w8, .ref w17, .ref w26, .ref w35, .ref w44, .ref w53, .null, .int (iZ 0)])), (w8, .inl (cI, 256, .inl (zA (fun _ => 0)))), (w17, .inl (cI, 4096, .inl (zA (fun _ => 0)))), (w26, .inl (cI, 4096, .inl (zA (fun _ => 0)))), (w35, .inl (cI, 4096, .inl (zA (fun _ => 0)))), (w44, .inl (cI, 4096, .inl (zA (fun _ => 0)))), (w53, .inl (cI, 256, .inl (zA (fun _ => 0))))] := jD
  refine lv_aload_n jx jb d_Share_init_58 rfl (lv_at jl 0 rfl) ?_
  refine lv_sipush (v := iZ 256) jx jb d_Share_init_59 (by decide) ?_
  refine z_newa jx jb (jts _ ac_int) rfl rfl rfl jK.1 jP jD jS jA 0 rfl 256 ⟨rfl, by decide⟩ (Nat.le_of_ble_eq_true rfl) (Nat.le_of_ble_eq_true rfl) d_Share_init_62 (fun w62 H jP jD jS => ?_)
  have jP : va_P D classes [(h, .inr (1, [.ref w8, .ref w17, .ref w26, .ref w35, .ref w44, .ref w53, .null, .int (iZ 0)])), (w8, .inl (cI, 256, .inl (zA (fun _ => 0)))), (w17, .inl (cI, 4096, .inl (zA (fun _ => 0)))), (w26, .inl (cI, 4096, .inl (zA (fun _ => 0)))), (w35, .inl (cI, 4096, .inl (zA (fun _ => 0)))), (w44, .inl (cI, 4096, .inl (zA (fun _ => 0)))), (w53, .inl (cI, 256, .inl (zA (fun _ => 0)))), (w62, .inl (cI, 256, .inl (zA (fun _ => 0))))] H := jP
  have jD : va_D A [(h, .inr (1, [.ref w8, .ref w17, .ref w26, .ref w35, .ref w44, .ref w53, .null, .int (iZ 0)])), (w8, .inl (cI, 256, .inl (zA (fun _ => 0)))), (w17, .inl (cI, 4096, .inl (zA (fun _ => 0)))), (w26, .inl (cI, 4096, .inl (zA (fun _ => 0)))), (w35, .inl (cI, 4096, .inl (zA (fun _ => 0)))), (w44, .inl (cI, 4096, .inl (zA (fun _ => 0)))), (w53, .inl (cI, 256, .inl (zA (fun _ => 0)))), (w62, .inl (cI, 256, .inl (zA (fun _ => 0))))] := jD
  refine va_putF (D := D) (ci := 1) (v := .ref w62) (ty := (.array .int)) (C := R_Share) (T := F_Share) (N := 8) jx jb jts i_Share t_Share t_Share_ok n_Share jown jK.1 jP jD jS 0 rfl rfl 6 (by decide) (jts _ fl_Share_30) (fun _ h9 => h9) rfl jmn rfl (by decide +kernel) rfl rfl (Nat.le_of_ble_eq_true rfl) d_Share_init_64 (fun H locs jP jD jS => ?_)
  have jP : va_P D classes [(h, .inr (1, [.ref w8, .ref w17, .ref w26, .ref w35, .ref w44, .ref w53, .ref w62, .int (iZ 0)])), (w8, .inl (cI, 256, .inl (zA (fun _ => 0)))), (w17, .inl (cI, 4096, .inl (zA (fun _ => 0)))), (w26, .inl (cI, 4096, .inl (zA (fun _ => 0)))), (w35, .inl (cI, 4096, .inl (zA (fun _ => 0)))), (w44, .inl (cI, 4096, .inl (zA (fun _ => 0)))), (w53, .inl (cI, 256, .inl (zA (fun _ => 0)))), (w62, .inl (cI, 256, .inl (zA (fun _ => 0))))] H := jP
  have jD : va_D A [(h, .inr (1, [.ref w8, .ref w17, .ref w26, .ref w35, .ref w44, .ref w53, .ref w62, .int (iZ 0)])), (w8, .inl (cI, 256, .inl (zA (fun _ => 0)))), (w17, .inl (cI, 4096, .inl (zA (fun _ => 0)))), (w26, .inl (cI, 4096, .inl (zA (fun _ => 0)))), (w35, .inl (cI, 4096, .inl (zA (fun _ => 0)))), (w44, .inl (cI, 4096, .inl (zA (fun _ => 0)))), (w53, .inl (cI, 256, .inl (zA (fun _ => 0)))), (w62, .inl (cI, 256, .inl (zA (fun _ => 0))))] := jD
  exact jret _ _ (w8, w17, w26, w35, w44, w53, w62) _ _ (trivial) (jP.sub [0, 1, 2, 3, 4, 5, 6, 7] rfl) (jD.sub [0, 1, 2, 3, 4, 5, 6, 7] (by decide) rfl) jS d_Share_init_67
abbrev rm_Share_giveNumber : Room := { frames := 2, cells := 0, slots := 0, locals := 42 }
set_option maxHeartbeats 4000000 in
set_option maxRecDepth 100000 in
theorem c_Share_giveNumber (l : Launch) (D : va_G) (cI cB cZ : ClassId) (sz : Nat) (h : Nat) (pP : Nat) (pS : Nat) (pB : Nat) (pA : Nat) (pC : Nat) (pF : Nat) (pN : Nat) (o : Nat) (gP : Nat → Int) (gF : Nat → Int) (gC : Nat → Int) (gB : Nat → Int) (gA : Nat → Int) (k : Int) (x : Int) (y : Int) (ho : o ≤ 12) (ho0 : 0 < o) (hk : 0 ≤ k ∧ k < 2 ^ o) (hx1 : 0 ≤ x ∧ x < 256) (hpr : ∀ k, k < 256 → -1 ≤ gP k ∧ gP k ≤ 65536) (hs : 0 ≤ gF x.toNat + y - wgt (gP x.toNat) ∧ gF x.toNat + y - wgt (gP x.toNat) < 2 ^ o) (hy : 1 ≤ y ∧ y < 2 ^ (o + 1)) : Met l y_Share_giveNumber (.code y_Share_giveNumber b_Share_giveNumber 5 none :: zT) rm_Share_giveNumber (zPc D classes (TY cI cB cZ) [(h, .inr (1, [.ref pP, .ref pS, .ref pB, .ref pA, .ref pC, .ref pF, .ref pN, .int (iZ (o : Int))])), (pP, .inl (cI, 256, .inl (zA gP))), (pF, .inl (cI, 256, .inl (zA gF))), (pC, .inl (cI, 4096, .inl (zA gC))), (pB, .inl (cI, 4096, .inl (zA gB))), (pA, .inl (cI, 4096, .inl (zA gA)))] sz [.ref h, .int (iZ k), .int (iZ x), .int (iZ y)]) (zFv (S := Unit) D classes (fun _u => True) (fun _u => [(h, .inr (1, [.ref pP, .ref pS, .ref pB, .ref pA, .ref pC, .ref pF, .ref pN, .int (iZ (o : Int))])), (pP, .inl (cI, 256, .inl (zA gP))), (pF, .inl (cI, 256, .inl (zA gF))), (pC, .inl (cI, 4096, .inl (zA (zu gC (gF x.toNat + y - wgt (gP x.toNat)).toNat k)))), (pB, .inl (cI, 4096, .inl (zA (zu gB k.toNat ((o : Int) - (zlog y : Int)))))), (pA, .inl (cI, 4096, .inl (zA (zu gA k.toNat (y * 2 ^ (o - zlog y) - 2 ^ o)))))]) (va_A [(h, .inr (1, [.ref pP, .ref pS, .ref pB, .ref pA, .ref pC, .ref pF, .ref pN, .int (iZ (o : Int))])), (pP, .inl (cI, 256, .inl (zA gP))), (pF, .inl (cI, 256, .inl (zA gF))), (pC, .inl (cI, 4096, .inl (zA gC))), (pB, .inl (cI, 4096, .inl (zA gB))), (pA, .inl (cI, 4096, .inl (zA gA)))] sz)) 0 0 (va_A [(h, .inr (1, [.ref pP, .ref pS, .ref pB, .ref pA, .ref pC, .ref pF, .ref pN, .int (iZ (o : Int))])), (pP, .inl (cI, 256, .inl (zA gP))), (pF, .inl (cI, 256, .inl (zA gF))), (pC, .inl (cI, 4096, .inl (zA gC))), (pB, .inl (cI, 4096, .inl (zA gB))), (pA, .inl (cI, 4096, .inl (zA gA)))] sz) := by
  refine z_ofv (by decide) (Nat.le_of_ble_eq_true rfl) rfl ?_
  intro p e s m args below meth c A Q E jmn jA jK jret H locs jP jD jS ls jl
  obtain ⟨jx, jb, jrt, jml, jown, jts, jlk⟩ := E
  have jown : s.vm.findClass R_Share = some m.cls := jown
  have hp12 := p2_le ho
  have hp13 := p2_le (show o + 1 ≤ 13 by omega)
  have hzl := zlog_le hy.1 hy.2
  have jl : lv_has ls 5 [(0, .ref h), (1, .int (iZ k)), (2, .int (iZ x)), (3, .int (iZ y))] := jl
  refine lv_aload_n jx jb d_Share_giveNumber_0 rfl (lv_at jl 0 rfl) ?_
  refine lv_iload_n jx jb d_Share_giveNumber_1 rfl (lv_at jl 2 rfl) ?_
  refine lv_iload_n jx jb d_Share_giveNumber_2 rfl (lv_at jl 3 rfl) ?_
  refine z_backe (va_runV (As := [.int (iZ x), .int (iZ y)]) (rest := []) ⟨jx, jb, jml, jown, jts⟩ (c_Share_slotOf l D cI cB cZ h pP pS pB pA pC pF pN o gP gF x y (by first | assumption | omega) (by first | assumption | omega)) (zc_V 2 jts cd_Share_slotOf lk_Share_59 im_Share_slotOf se_Share_slotOf in_Share hd_Share_slotOf ⟨Nat.le_of_ble_eq_true rfl, Nat.le_of_ble_eq_true rfl⟩ rfl rfl) (z_preVR jK jP [0, 1, 2] rfl rfl rfl) rfl rfl jl.1 rfl (lv_room (Nat.le_of_ble_eq_true rfl)) d_Share_giveNumber_3 ⟨Nat.le_of_ble_eq_true rfl, Nat.le_of_ble_eq_true rfl⟩) ?_
  refine lv_istore (lv' := [(4, .int (iZ (gF x.toNat + y - wgt (gP x.toNat)))), (0, .ref h), (1, .int (iZ k)), (2, .int (iZ x)), (3, .int (iZ y))]) jx jb d_Share_giveNumber_6 jl (by decide) rfl (fun ls jl => ?_)
  refine lv_aload_n jx jb d_Share_giveNumber_8 rfl (lv_at jl 1 rfl) ?_
  refine lv_iload_n jx jb d_Share_giveNumber_9 rfl (lv_at jl 2 rfl) ?_
  refine z_backr (va_runV (As := [.int (iZ k)]) (rest := []) ⟨jx, jb, jml, jown, jts⟩ (c_Share_hasCell l D cI cB cZ h pP pS pB pA pC pF pN o k (by first | assumption | omega) (by first | assumption | omega)) (zc_V 1 jts cd_Share_hasCell lk_Share_56 im_Share_hasCell se_Share_hasCell in_Share hd_Share_hasCell ⟨Nat.le_of_ble_eq_true rfl, Nat.le_of_ble_eq_true rfl⟩ rfl rfl) (z_preVR jK jP [0] rfl rfl rfl) rfl rfl jl.1 rfl (lv_room (Nat.le_of_ble_eq_true rfl)) d_Share_giveNumber_10 ⟨Nat.le_of_ble_eq_true rfl, Nat.le_of_ble_eq_true rfl⟩) (fun z10 hz10 => ?_)
  rcases hz10 with ⟨rfl, hq10⟩ | ⟨rfl, hq10⟩
  ·
    refine z_if_eq (tgt := 67) jx jb d_Share_giveNumber_13 (by decide) ⟨by decide, by decide⟩ (fun hc13 => ?_) (fun hc13 => ?_)
    ·
      exact absurd hc13 (by decide)
    ·
      refine lv_aload_n jx jb d_Share_giveNumber_16 rfl (lv_at jl 1 rfl) ?_
      refine lv_iload jx jb d_Share_giveNumber_17 (lv_at jl 0 rfl) ?_
      refine z_backr (va_runV (As := [.int (iZ (gF x.toNat + y - wgt (gP x.toNat)))]) (rest := []) ⟨jx, jb, jml, jown, jts⟩ (c_Share_hasCell l D cI cB cZ h pP pS pB pA pC pF pN o (gF x.toNat + y - wgt (gP x.toNat)) (by first | assumption | omega) (by first | assumption | omega)) (zc_V 1 jts cd_Share_hasCell lk_Share_56 im_Share_hasCell se_Share_hasCell in_Share hd_Share_hasCell ⟨Nat.le_of_ble_eq_true rfl, Nat.le_of_ble_eq_true rfl⟩ rfl rfl) (z_preVR jK jP [0] rfl rfl rfl) rfl rfl jl.1 rfl (lv_room (Nat.le_of_ble_eq_true rfl)) d_Share_giveNumber_19 ⟨Nat.le_of_ble_eq_true rfl, Nat.le_of_ble_eq_true rfl⟩) (fun z19 hz19 => ?_)
      rcases hz19 with ⟨rfl, hq19⟩ | ⟨rfl, hq19⟩
      ·
        refine z_if_eq (tgt := 67) jx jb d_Share_giveNumber_22 (by decide) ⟨by decide, by decide⟩ (fun hc22 => ?_) (fun hc22 => ?_)
        ·
          exact absurd hc22 (by decide)
        ·
          refine lv_aload_n jx jb d_Share_giveNumber_25 rfl (lv_at jl 1 rfl) ?_
          refine va_get (D := D) (ci := 1) (v := .ref pC) (C := R_Share) (T := F_Share) (N := 8) jx jb jts i_Share jown jK.1 jP 0 rfl rfl 4 (by decide) (jts _ fl_Share_24) (fun _ h9 => h9) rfl d_Share_giveNumber_26 ?_
          refine lv_iload jx jb d_Share_giveNumber_29 (lv_at jl 0 rfl) ?_
          refine lv_iload_n jx jb d_Share_giveNumber_31 rfl (lv_at jl 2 rfl) ?_
          refine z_iast jx jb jK.1 jP jD jS 3 0 rfl rfl ((gF x.toNat + y - wgt (gP x.toNat)).toNat) (by omega) d_Share_giveNumber_32 (fun H locs jP jD jS => ?_)
          have jP : va_P D classes [(h, .inr (1, [.ref pP, .ref pS, .ref pB, .ref pA, .ref pC, .ref pF, .ref pN, .int (iZ (o : Int))])), (pP, .inl (cI, 256, .inl (zA gP))), (pF, .inl (cI, 256, .inl (zA gF))), (pC, .inl (cI, 4096, .inl (zA (zu gC ((gF x.toNat + y - wgt (gP x.toNat)).toNat) k)))), (pB, .inl (cI, 4096, .inl (zA gB))), (pA, .inl (cI, 4096, .inl (zA gA)))] H := jP
          have jD : va_D A [(h, .inr (1, [.ref pP, .ref pS, .ref pB, .ref pA, .ref pC, .ref pF, .ref pN, .int (iZ (o : Int))])), (pP, .inl (cI, 256, .inl (zA gP))), (pF, .inl (cI, 256, .inl (zA gF))), (pC, .inl (cI, 4096, .inl (zA (zu gC ((gF x.toNat + y - wgt (gP x.toNat)).toNat) k)))), (pB, .inl (cI, 4096, .inl (zA gB))), (pA, .inl (cI, 4096, .inl (zA gA)))] := jD
          refine lv_aload_n jx jb d_Share_giveNumber_33 rfl (lv_at jl 1 rfl) ?_
          refine va_get (D := D) (ci := 1) (v := .ref pB) (C := R_Share) (T := F_Share) (N := 8) jx jb jts i_Share jown jK.1 jP 0 rfl rfl 2 (by decide) (jts _ fl_Share_18) (fun _ h9 => h9) rfl d_Share_giveNumber_34 ?_
          refine lv_iload_n jx jb d_Share_giveNumber_37 rfl (lv_at jl 2 rfl) ?_
          refine lv_aload_n jx jb d_Share_giveNumber_38 rfl (lv_at jl 1 rfl) ?_
          refine va_get (D := D) (ci := 1) (v := .int (iZ (o : Int))) (C := R_Share) (T := F_Share) (N := 8) jx jb jts i_Share jown jK.1 jP 0 rfl rfl 7 (by decide) (jts _ fl_Share_33) (fun _ h9 => h9) rfl d_Share_giveNumber_39 ?_
          refine lv_iload_n jx jb d_Share_giveNumber_42 rfl (lv_at jl 4 rfl) ?_
          refine z_backe (va_runSN (As := [.int (iZ y)]) (rest := [.int (iZ (o : Int)), .int (iZ k), .ref pB]) ⟨jx, jb, jml, jown, jts⟩ (c_exponent l D cI cB cZ y (by first | assumption | omega)) (zc_SN 1 jts cd_SC_exponent (jK.nest ln_Share_83 rfl) st_SC_exponent in_SC hd_SC_exponent ⟨Nat.le_of_ble_eq_true rfl, Nat.le_of_ble_eq_true rfl⟩ rfl rfl) (z_preSR jK jP [] rfl) rfl rfl jl.1 rfl (lv_room (Nat.le_of_ble_eq_true rfl)) d_Share_giveNumber_43 ⟨Nat.le_of_ble_eq_true rfl, Nat.le_of_ble_eq_true rfl⟩) ?_
          refine z_isub jx jb d_Share_giveNumber_46 ?_
          refine z_iast jx jb jK.1 jP jD jS 4 0 rfl rfl k.toNat (by omega) d_Share_giveNumber_47 (fun H locs jP jD jS => ?_)
          have jP : va_P D classes [(h, .inr (1, [.ref pP, .ref pS, .ref pB, .ref pA, .ref pC, .ref pF, .ref pN, .int (iZ (o : Int))])), (pP, .inl (cI, 256, .inl (zA gP))), (pF, .inl (cI, 256, .inl (zA gF))), (pC, .inl (cI, 4096, .inl (zA (zu gC ((gF x.toNat + y - wgt (gP x.toNat)).toNat) k)))), (pB, .inl (cI, 4096, .inl (zA (zu gB k.toNat ((o : Int) - (zlog y : Int)))))), (pA, .inl (cI, 4096, .inl (zA gA)))] H := jP
          have jD : va_D A [(h, .inr (1, [.ref pP, .ref pS, .ref pB, .ref pA, .ref pC, .ref pF, .ref pN, .int (iZ (o : Int))])), (pP, .inl (cI, 256, .inl (zA gP))), (pF, .inl (cI, 256, .inl (zA gF))), (pC, .inl (cI, 4096, .inl (zA (zu gC ((gF x.toNat + y - wgt (gP x.toNat)).toNat) k)))), (pB, .inl (cI, 4096, .inl (zA (zu gB k.toNat ((o : Int) - (zlog y : Int)))))), (pA, .inl (cI, 4096, .inl (zA gA)))] := jD
          refine lv_aload_n jx jb d_Share_giveNumber_48 rfl (lv_at jl 1 rfl) ?_
          refine va_get (D := D) (ci := 1) (v := .ref pA) (C := R_Share) (T := F_Share) (N := 8) jx jb jts i_Share jown jK.1 jP 0 rfl rfl 3 (by decide) (jts _ fl_Share_21) (fun _ h9 => h9) rfl d_Share_giveNumber_49 ?_
          refine lv_iload_n jx jb d_Share_giveNumber_52 rfl (lv_at jl 2 rfl) ?_
          refine lv_iload_n jx jb d_Share_giveNumber_53 rfl (lv_at jl 4 rfl) ?_
          refine lv_aload_n jx jb d_Share_giveNumber_54 rfl (lv_at jl 1 rfl) ?_
          refine va_get (D := D) (ci := 1) (v := .ref pB) (C := R_Share) (T := F_Share) (N := 8) jx jb jts i_Share jown jK.1 jP 0 rfl rfl 2 (by decide) (jts _ fl_Share_18) (fun _ h9 => h9) rfl d_Share_giveNumber_55 ?_
          refine lv_iload_n jx jb d_Share_giveNumber_58 rfl (lv_at jl 2 rfl) ?_
          refine z_iald jx jb jK.1 jP 4 0 rfl rfl k.toNat (by omega) d_Share_giveNumber_59 ?_
          refine z_top ((o - zlog y : Nat) : Int) (by rw [zu_s]; omega) ?_
          refine z_ishl jx jb d_Share_giveNumber_60 (o - zlog y : Nat) (2 ^ (o - zlog y : Nat)) (rfl) (by omega) ?_
          refine lv_aload_n jx jb d_Share_giveNumber_61 rfl (lv_at jl 1 rfl) ?_
          refine z_backe (va_runV (As := []) (rest := [.int (iZ (y * (2 ^ (o - zlog y : Nat)))), .int (iZ k), .ref pA]) ⟨jx, jb, jml, jown, jts⟩ (c_Share_cells l D cI cB cZ h pP pS pB pA pC pF pN o (by first | assumption | omega)) (zc_V 0 jts cd_Share_cells lk_Share_41 im_Share_cells se_Share_cells in_Share hd_Share_cells ⟨Nat.le_of_ble_eq_true rfl, Nat.le_of_ble_eq_true rfl⟩ rfl rfl) (z_preVR jK jP [0] rfl rfl rfl) rfl rfl jl.1 rfl (lv_room (Nat.le_of_ble_eq_true rfl)) d_Share_giveNumber_62 ⟨Nat.le_of_ble_eq_true rfl, Nat.le_of_ble_eq_true rfl⟩) ?_
          refine z_isub jx jb d_Share_giveNumber_65 ?_
          refine z_iast jx jb jK.1 jP jD jS 5 0 rfl rfl k.toNat (by omega) d_Share_giveNumber_66 (fun H locs jP jD jS => ?_)
          have jP : va_P D classes [(h, .inr (1, [.ref pP, .ref pS, .ref pB, .ref pA, .ref pC, .ref pF, .ref pN, .int (iZ (o : Int))])), (pP, .inl (cI, 256, .inl (zA gP))), (pF, .inl (cI, 256, .inl (zA gF))), (pC, .inl (cI, 4096, .inl (zA (zu gC ((gF x.toNat + y - wgt (gP x.toNat)).toNat) k)))), (pB, .inl (cI, 4096, .inl (zA (zu gB k.toNat ((o : Int) - (zlog y : Int)))))), (pA, .inl (cI, 4096, .inl (zA (zu gA k.toNat ((y * (2 ^ (o - zlog y : Nat))) - (2 ^ o))))))] H := jP
          have jD : va_D A [(h, .inr (1, [.ref pP, .ref pS, .ref pB, .ref pA, .ref pC, .ref pF, .ref pN, .int (iZ (o : Int))])), (pP, .inl (cI, 256, .inl (zA gP))), (pF, .inl (cI, 256, .inl (zA gF))), (pC, .inl (cI, 4096, .inl (zA (zu gC ((gF x.toNat + y - wgt (gP x.toNat)).toNat) k)))), (pB, .inl (cI, 4096, .inl (zA (zu gB k.toNat ((o : Int) - (zlog y : Int)))))), (pA, .inl (cI, 4096, .inl (zA (zu gA k.toNat ((y * (2 ^ (o - zlog y : Nat))) - (2 ^ o))))))] := jD
          exact jret _ _ () _ _ (trivial) (jP.sub [0, 1, 2, 3, 4, 5] rfl) (jD.sub [0, 1, 2, 3, 4, 5] (by decide) rfl) jS d_Share_giveNumber_67
      ·
        exfalso; omega
  ·
    exfalso; omega
abbrev rm_Share_startNumbers : Room := { frames := 3, cells := 0, slots := 0, locals := 62 }
set_option maxHeartbeats 4000000 in
set_option maxRecDepth 100000 in
theorem c_Share_startNumbers (l : Launch) (D : va_G) (cI cB cZ : ClassId) (sz : Nat) (h : Nat) (pP : Nat) (pS : Nat) (pB : Nat) (pA : Nat) (pC : Nat) (pF : Nat) (pN : Nat) (o : Nat) (gP : Nat → Int) (gF : Nat → Int) (gN : Nat → Int) (hpr : ∀ k, k < 256 → -1 ≤ gP k ∧ gP k ≤ 65536) : Met l y_Share_startNumbers (.code y_Share_startNumbers b_Share_startNumbers 3 none :: zT) rm_Share_startNumbers (zPc D classes (TY cI cB cZ) [(h, .inr (1, [.ref pP, .ref pS, .ref pB, .ref pA, .ref pC, .ref pF, .ref pN, .int (iZ (o : Int))])), (pP, .inl (cI, 256, .inl (zA gP))), (pF, .inl (cI, 256, .inl (zA gF))), (pN, .inl (cI, 256, .inl (zA gN)))] sz [.ref h]) (zFv (S := (Nat → Int) × (Nat → Int)) D classes (fun u => (∀ k, k < 256 → u.1 k = cum gP k) ∧ ∀ k, k < 256 → u.2 k = wgt (gP k)) (fun u => [(h, .inr (1, [.ref pP, .ref pS, .ref pB, .ref pA, .ref pC, .ref pF, .ref pN, .int (iZ (o : Int))])), (pP, .inl (cI, 256, .inl (zA gP))), (pF, .inl (cI, 256, .inl (zA u.1))), (pN, .inl (cI, 256, .inl (zA u.2)))]) (va_A [(h, .inr (1, [.ref pP, .ref pS, .ref pB, .ref pA, .ref pC, .ref pF, .ref pN, .int (iZ (o : Int))])), (pP, .inl (cI, 256, .inl (zA gP))), (pF, .inl (cI, 256, .inl (zA gF))), (pN, .inl (cI, 256, .inl (zA gN)))] sz)) 0 0 (va_A [(h, .inr (1, [.ref pP, .ref pS, .ref pB, .ref pA, .ref pC, .ref pF, .ref pN, .int (iZ (o : Int))])), (pP, .inl (cI, 256, .inl (zA gP))), (pF, .inl (cI, 256, .inl (zA gF))), (pN, .inl (cI, 256, .inl (zA gN)))] sz) := by
  refine z_ofv (by decide) (Nat.le_of_ble_eq_true rfl) rfl ?_
  intro p e s m args below meth c A Q E jmn jA jK jret H locs jP jD jS ls jl
  obtain ⟨jx, jb, jrt, jml, jown, jts, jlk⟩ := E
  have jown : s.vm.findClass R_Share = some m.cls := jown
  have jl : lv_has ls 3 [(0, .ref h)] := jl
  refine lv_iconst (v := iZ 0) jx jb d_Share_startNumbers_0 rfl ?_
  refine lv_istore_n (lv' := [(1, .int (iZ 0)), (0, .ref h)]) jx jb d_Share_startNumbers_1 rfl jl (by decide) rfl (fun ls jl => ?_)
  refine lv_iconst (v := iZ 0) jx jb d_Share_startNumbers_2 rfl ?_
  refine lv_istore_n (lv' := [(2, .int (iZ 0)), (1, .int (iZ 0)), (0, .ref h)]) jx jb d_Share_startNumbers_3 rfl jl (by decide) rfl (fun ls jl => ?_)
  have hloop4 : ∀ (nF : Nat) (i : Nat) (gF2 : Nat → Int) (gN2 : Nat → Int), 256 - i < nF → (i ≤ 256) → (∀ k, k < i → gF2 k = cum gP k) → (∀ k, k < i → gN2 k = wgt (gP k)) → ∀ (H : Heap) (locs : List Loc), va_P D classes [(h, .inr (1, [.ref pP, .ref pS, .ref pB, .ref pA, .ref pC, .ref pF, .ref pN, .int (iZ (o : Int))])), (pP, .inl (cI, 256, .inl (zA gP))), (pF, .inl (cI, 256, .inl (zA gF2))), (pN, .inl (cI, 256, .inl (zA gN2)))] H → va_D A [(h, .inr (1, [.ref pP, .ref pS, .ref pB, .ref pA, .ref pC, .ref pF, .ref pN, .int (iZ (o : Int))])), (pP, .inl (cI, 256, .inl (zA gP))), (pF, .inl (cI, 256, .inl (zA gF2))), (pN, .inl (cI, 256, .inl (zA gN2)))] → va_S A s.heap H locs → ∀ ls : Array Slot, lv_has ls 3 [(0, .ref h), (1, .int (iZ (cum gP i))), (2, .int (iZ (i : Int)))] → W p l e rm_Share_startNumbers s m args below meth c H locs 0 0 Q (F0 m 4 ls []) := by
    intro nF
    induction nF with
    | zero => intro i gF2 gN2 hm; exact absurd hm (Nat.not_lt_zero _)
    | succ nF ih4 =>
      intro i gF2 gN2 hm hi h1 h2 H locs jP jD jS ls jl
      refine lv_iload_n jx jb d_Share_startNumbers_4 rfl (lv_at jl 2 rfl) ?_
      refine lv_sipush (v := iZ 256) jx jb d_Share_startNumbers_5 (by decide) ?_
      refine z_icmp_ge (tgt := 43) jx jb d_Share_startNumbers_8 (by decide) ⟨⟨by omega, by omega⟩, ⟨by decide, by decide⟩⟩ (fun hc8 => ?_) (fun hc8 => ?_)
      ·
        exact jret _ _ (gF2, gN2) _ _ (⟨fun k h => h1 k (by omega), fun k h => h2 k (by omega)⟩) (jP.sub [0, 1, 2, 3] rfl) (jD.sub [0, 1, 2, 3] (by decide) rfl) jS d_Share_startNumbers_43
      ·
        refine lv_aload_n jx jb d_Share_startNumbers_11 rfl (lv_at jl 0 rfl) ?_
        refine va_get (D := D) (ci := 1) (v := .ref pF) (C := R_Share) (T := F_Share) (N := 8) jx jb jts i_Share jown jK.1 jP 0 rfl rfl 5 (by decide) (jts _ fl_Share_27) (fun _ h9 => h9) rfl d_Share_startNumbers_12 ?_
        refine lv_iload_n jx jb d_Share_startNumbers_15 rfl (lv_at jl 2 rfl) ?_
        refine lv_iload_n jx jb d_Share_startNumbers_16 rfl (lv_at jl 1 rfl) ?_
        refine z_iast jx jb jK.1 jP jD jS 2 0 rfl rfl i (by omega) d_Share_startNumbers_17 (fun H locs jP jD jS => ?_)
        have jP : va_P D classes [(h, .inr (1, [.ref pP, .ref pS, .ref pB, .ref pA, .ref pC, .ref pF, .ref pN, .int (iZ (o : Int))])), (pP, .inl (cI, 256, .inl (zA gP))), (pF, .inl (cI, 256, .inl (zA (zu gF2 i (cum gP i))))), (pN, .inl (cI, 256, .inl (zA gN2)))] H := jP
        have jD : va_D A [(h, .inr (1, [.ref pP, .ref pS, .ref pB, .ref pA, .ref pC, .ref pF, .ref pN, .int (iZ (o : Int))])), (pP, .inl (cI, 256, .inl (zA gP))), (pF, .inl (cI, 256, .inl (zA (zu gF2 i (cum gP i))))), (pN, .inl (cI, 256, .inl (zA gN2)))] := jD
        refine lv_aload_n jx jb d_Share_startNumbers_18 rfl (lv_at jl 0 rfl) ?_
        refine va_get (D := D) (ci := 1) (v := .ref pN) (C := R_Share) (T := F_Share) (N := 8) jx jb jts i_Share jown jK.1 jP 0 rfl rfl 6 (by decide) (jts _ fl_Share_30) (fun _ h9 => h9) rfl d_Share_startNumbers_19 ?_
        refine lv_iload_n jx jb d_Share_startNumbers_22 rfl (lv_at jl 2 rfl) ?_
        refine lv_aload_n jx jb d_Share_startNumbers_23 rfl (lv_at jl 0 rfl) ?_
        refine lv_iload_n jx jb d_Share_startNumbers_24 rfl (lv_at jl 2 rfl) ?_
        refine z_backe (va_runV (As := [.int (iZ (i : Int))]) (rest := [.int (iZ (i : Int)), .ref pN]) ⟨jx, jb, jml, jown, jts⟩ (c_Share_weightOf l D cI cB cZ h pP pS pB pA pC pF pN o gP (i : Int) (by first | assumption | omega) (by first | assumption | omega)) (zc_V 1 jts cd_Share_weightOf lk_Share_76 im_Share_weightOf se_Share_weightOf in_Share hd_Share_weightOf ⟨Nat.le_of_ble_eq_true rfl, Nat.le_of_ble_eq_true rfl⟩ rfl rfl) (z_preVR jK jP [0, 1] rfl rfl rfl) rfl rfl jl.1 rfl (lv_room (Nat.le_of_ble_eq_true rfl)) d_Share_startNumbers_25 ⟨Nat.le_of_ble_eq_true rfl, Nat.le_of_ble_eq_true rfl⟩) ?_
        refine z_iast jx jb jK.1 jP jD jS 3 0 rfl rfl i (by omega) d_Share_startNumbers_28 (fun H locs jP jD jS => ?_)
        have jP : va_P D classes [(h, .inr (1, [.ref pP, .ref pS, .ref pB, .ref pA, .ref pC, .ref pF, .ref pN, .int (iZ (o : Int))])), (pP, .inl (cI, 256, .inl (zA gP))), (pF, .inl (cI, 256, .inl (zA (zu gF2 i (cum gP i))))), (pN, .inl (cI, 256, .inl (zA (zu gN2 i (wgt (gP (i : Int).toNat))))))] H := jP
        have jD : va_D A [(h, .inr (1, [.ref pP, .ref pS, .ref pB, .ref pA, .ref pC, .ref pF, .ref pN, .int (iZ (o : Int))])), (pP, .inl (cI, 256, .inl (zA gP))), (pF, .inl (cI, 256, .inl (zA (zu gF2 i (cum gP i))))), (pN, .inl (cI, 256, .inl (zA (zu gN2 i (wgt (gP (i : Int).toNat))))))] := jD
        refine lv_iload_n jx jb d_Share_startNumbers_29 rfl (lv_at jl 1 rfl) ?_
        refine lv_aload_n jx jb d_Share_startNumbers_30 rfl (lv_at jl 0 rfl) ?_
        refine lv_iload_n jx jb d_Share_startNumbers_31 rfl (lv_at jl 2 rfl) ?_
        refine z_backe (va_runV (As := [.int (iZ (i : Int))]) (rest := [.int (iZ (cum gP i))]) ⟨jx, jb, jml, jown, jts⟩ (c_Share_weightOf l D cI cB cZ h pP pS pB pA pC pF pN o gP (i : Int) (by first | assumption | omega) (by first | assumption | omega)) (zc_V 1 jts cd_Share_weightOf lk_Share_76 im_Share_weightOf se_Share_weightOf in_Share hd_Share_weightOf ⟨Nat.le_of_ble_eq_true rfl, Nat.le_of_ble_eq_true rfl⟩ rfl rfl) (z_preVR jK jP [0, 1] rfl rfl rfl) rfl rfl jl.1 rfl (lv_room (Nat.le_of_ble_eq_true rfl)) d_Share_startNumbers_32 ⟨Nat.le_of_ble_eq_true rfl, Nat.le_of_ble_eq_true rfl⟩) ?_
        refine z_iadd jx jb d_Share_startNumbers_35 ?_
        refine lv_istore_n (lv' := [(1, .int (iZ ((cum gP i) + (wgt (gP (i : Int).toNat))))), (0, .ref h), (2, .int (iZ (i : Int)))]) jx jb d_Share_startNumbers_36 rfl jl (by decide) rfl (fun ls jl => ?_)
        refine lv_iinc (v := iZ ((i : Int) + 1)) (lv' := [(2, .int (iZ ((i : Int) + 1))), (1, .int (iZ ((cum gP i) + (wgt (gP (i : Int).toNat))))), (0, .ref h)]) jx jb d_Share_startNumbers_37 jl (k := 2) rfl (iZ_add _ _) (by decide) rfl (fun ls jl => ?_)
        refine lv_goto (tgt := 4) jx jb d_Share_startNumbers_40 (by decide) ?_
        exact ih4 (i + 1) (zu gF2 i (cum gP i)) (zu gN2 i (wgt (gP (i : Int).toNat))) (by omega) (by first | assumption | omega) (zu_all h1 rfl) (zu_all h2 rfl) _ _ (jP.sub [0, 1, 2, 3] rfl) (jD.sub [0, 1, 2, 3] (by decide) rfl) jS _ (lv_sub jl [2, 1, 0] rfl)
  exact hloop4 ((256 - 0) + 1) 0 gF gN (Nat.lt_succ_self _) (by first | assumption | omega) (fun k h => absurd h (by omega)) (fun k h => absurd h (by omega)) _ _ (jP.sub [0, 1, 2, 3] rfl) (jD.sub [0, 1, 2, 3] (by decide) rfl) jS _ (lv_sub jl [2, 1, 0] rfl)
