theorem fl_CountsRule_37 : Cond.fieldLink R_CountsRule 37 "StateCoder$CountsRule" "rankedLength" "I" ∈ zT := zT_of (List.mem_of_getElem? (i := 123) (by decide +kernel)) rfl
theorem cd_CountsRule_rankByCut : Cond.code y_CountsRule_rankByCut b_CountsRule_rankByCut 4 none ∈ zT := zT_of (List.mem_of_getElem? (i := 236) (by decide +kernel)) rfl
theorem hd_CountsRule_rankByCut : y_CountsRule_rankByCut.cls ≠ "java/lang/invoke/MethodHandle" ∧ y_CountsRule_rankByCut.cls ≠ "java/lang/invoke/VarHandle" ∧ (parseMethodDescriptor y_CountsRule_rankByCut.desc).map (fun d => d.parameters.length) = some 1 := by decide +kernel
theorem lk_CountsRule_26 : Cond.methodLink R_CountsRule 26 y_CountsRule_rankByCut ∈ zT := zT_of (List.mem_of_getElem? (i := 233) (by decide +kernel)) rfl
theorem im_CountsRule_rankByCut : Cond.instanceMethod y_CountsRule_rankByCut ∈ zT := zT_of (List.mem_of_getElem? (i := 235) (by decide +kernel)) rfl
theorem se_CountsRule_rankByCut : Cond.selects R_CountsRule y_CountsRule_rankByCut y_CountsRule_rankByCut ∈ zT := zT_of (List.mem_of_getElem? (i := 1) (by decide +kernel)) rfl
theorem cd_CountsRule_giveMissing : Cond.code y_CountsRule_giveMissing b_CountsRule_giveMissing 5 none ∈ zT := zT_of (List.mem_of_getElem? (i := 240) (by decide +kernel)) rfl
theorem hd_CountsRule_giveMissing : y_CountsRule_giveMissing.cls ≠ "java/lang/invoke/MethodHandle" ∧ y_CountsRule_giveMissing.cls ≠ "java/lang/invoke/VarHandle" ∧ (parseMethodDescriptor y_CountsRule_giveMissing.desc).map (fun d => d.parameters.length) = some 2 := by decide +kernel
theorem lk_CountsRule_30 : Cond.methodLink R_CountsRule 30 y_CountsRule_giveMissing ∈ zT := zT_of (List.mem_of_getElem? (i := 237) (by decide +kernel)) rfl
theorem im_CountsRule_giveMissing : Cond.instanceMethod y_CountsRule_giveMissing ∈ zT := zT_of (List.mem_of_getElem? (i := 239) (by decide +kernel)) rfl
theorem se_CountsRule_giveMissing : Cond.selects R_CountsRule y_CountsRule_giveMissing y_CountsRule_giveMissing ∈ zT := zT_of (List.mem_of_getElem? (i := 2) (by decide +kernel)) rfl
theorem cd_CountsRule_takeExcess : Cond.code y_CountsRule_takeExcess b_CountsRule_takeExcess 6 none ∈ zT := zT_of (List.mem_of_getElem? (i := 244) (by decide +kernel)) rfl
theorem hd_CountsRule_takeExcess : y_CountsRule_takeExcess.cls ≠ "java/lang/invoke/MethodHandle" ∧ y_CountsRule_takeExcess.cls ≠ "java/lang/invoke/VarHandle" ∧ (parseMethodDescriptor y_CountsRule_takeExcess.desc).map (fun d => d.parameters.length) = some 2 := by decide +kernel
theorem lk_CountsRule_34 : Cond.methodLink R_CountsRule 34 y_CountsRule_takeExcess ∈ zT := zT_of (List.mem_of_getElem? (i := 241) (by decide +kernel)) rfl
theorem im_CountsRule_takeExcess : Cond.instanceMethod y_CountsRule_takeExcess ∈ zT := zT_of (List.mem_of_getElem? (i := 243) (by decide +kernel)) rfl
theorem se_CountsRule_takeExcess : Cond.selects R_CountsRule y_CountsRule_takeExcess y_CountsRule_takeExcess ∈ zT := zT_of (List.mem_of_getElem? (i := 3) (by decide +kernel)) rfl
theorem cd_CountsRule_firstPoints : Cond.code y_CountsRule_firstPoints b_CountsRule_firstPoints 4 (some .int) ∈ zT := zT_of (List.mem_of_getElem? (i := 229) (by decide +kernel)) rfl
theorem hd_CountsRule_firstPoints : y_CountsRule_firstPoints.cls ≠ "java/lang/invoke/MethodHandle" ∧ y_CountsRule_firstPoints.cls ≠ "java/lang/invoke/VarHandle" ∧ (parseMethodDescriptor y_CountsRule_firstPoints.desc).map (fun d => d.parameters.length) = some 3 := by decide +kernel
theorem lk_CountsRule_18 : Cond.methodLink R_CountsRule 18 y_CountsRule_firstPoints ∈ zT := zT_of (List.mem_of_getElem? (i := 226) (by decide +kernel)) rfl
theorem im_CountsRule_firstPoints : Cond.instanceMethod y_CountsRule_firstPoints ∈ zT := zT_of (List.mem_of_getElem? (i := 228) (by decide +kernel)) rfl
theorem se_CountsRule_firstPoints : Cond.selects R_CountsRule y_CountsRule_firstPoints y_CountsRule_firstPoints ∈ zT := zT_of (List.mem_of_getElem? (i := 0) (by decide +kernel)) rfl
theorem ln_CountsRule_22 : Cond.methodLinkNest R_CountsRule 22 y_SC_weight R_SC ∈ lw_tbl := List.mem_of_getElem? (i := 230) (by decide +kernel)
theorem cd_CountsRule_makePoints : Cond.code y_CountsRule_makePoints b_CountsRule_makePoints 8 (some .boolean) ∈ zT := zT_of (List.mem_of_getElem? (i := 225) (by decide +kernel)) rfl
theorem hd_CountsRule_makePoints : y_CountsRule_makePoints.cls ≠ "java/lang/invoke/MethodHandle" ∧ y_CountsRule_makePoints.cls ≠ "java/lang/invoke/VarHandle" ∧ (parseMethodDescriptor y_CountsRule_makePoints.desc).map (fun d => d.parameters.length) = some 3 := by decide +kernel
theorem lk_SC_80 : Cond.methodLink R_SC 80 y_CountsRule_makePoints ∈ zT := zT_of (List.mem_of_getElem? (i := 222) (by decide +kernel)) rfl
theorem im_CountsRule_makePoints : Cond.instanceMethod y_CountsRule_makePoints ∈ zT := zT_of (List.mem_of_getElem? (i := 223) (by decide +kernel)) rfl
theorem se_CountsRule_makePoints : Cond.selects R_CountsRule y_CountsRule_makePoints y_CountsRule_makePoints ∈ zT := zT_of (List.mem_of_getElem? (i := 224) (by decide +kernel)) rfl
theorem d_CountsRule_firstPoints_0 : decode b_CountsRule_firstPoints 0 = .ok (.iload_n 2, 1) := by decide +kernel
theorem d_CountsRule_firstPoints_1 : decode b_CountsRule_firstPoints 1 = .ok (.ifCond .le 7, 3) := by decide +kernel
theorem d_CountsRule_firstPoints_4 : decode b_CountsRule_firstPoints 4 = .ok (.iload_n 3, 1) := by decide +kernel
theorem d_CountsRule_firstPoints_5 : decode b_CountsRule_firstPoints 5 = .ok (.ifCond .gt 5, 3) := by decide +kernel
theorem d_CountsRule_firstPoints_8 : decode b_CountsRule_firstPoints 8 = .ok (.iconst 0, 1) := by decide +kernel
theorem d_CountsRule_firstPoints_9 : decode b_CountsRule_firstPoints 9 = .ok (.ireturn, 1) := by decide +kernel
theorem d_CountsRule_firstPoints_10 : decode b_CountsRule_firstPoints 10 = .ok (.aload_n 0, 1) := by decide +kernel
theorem d_CountsRule_firstPoints_11 : decode b_CountsRule_firstPoints 11 = .ok (.getfield 9, 3) := by decide +kernel
theorem d_CountsRule_firstPoints_14 : decode b_CountsRule_firstPoints 14 = .ok (.iload_n 1, 1) := by decide +kernel
theorem d_CountsRule_firstPoints_15 : decode b_CountsRule_firstPoints 15 = .ok (.iload_n 2, 1) := by decide +kernel
theorem d_CountsRule_firstPoints_16 : decode b_CountsRule_firstPoints 16 = .ok (.iload_n 3, 1) := by decide +kernel
theorem d_CountsRule_firstPoints_17 : decode b_CountsRule_firstPoints 17 = .ok (.irem, 1) := by decide +kernel
theorem d_CountsRule_firstPoints_18 : decode b_CountsRule_firstPoints 18 = .ok (.iastore, 1) := by decide +kernel
theorem d_CountsRule_firstPoints_19 : decode b_CountsRule_firstPoints 19 = .ok (.iload_n 2, 1) := by decide +kernel
theorem d_CountsRule_firstPoints_20 : decode b_CountsRule_firstPoints 20 = .ok (.iload_n 3, 1) := by decide +kernel
theorem d_CountsRule_firstPoints_21 : decode b_CountsRule_firstPoints 21 = .ok (.if_icmp .ge 7, 3) := by decide +kernel
theorem d_CountsRule_firstPoints_24 : decode b_CountsRule_firstPoints 24 = .ok (.iconst (-1), 1) := by decide +kernel
theorem d_CountsRule_firstPoints_25 : decode b_CountsRule_firstPoints 25 = .ok (.goto 6, 3) := by decide +kernel
theorem d_CountsRule_firstPoints_28 : decode b_CountsRule_firstPoints 28 = .ok (.iload_n 2, 1) := by decide +kernel
theorem d_CountsRule_firstPoints_29 : decode b_CountsRule_firstPoints 29 = .ok (.iload_n 3, 1) := by decide +kernel
theorem d_CountsRule_firstPoints_30 : decode b_CountsRule_firstPoints 30 = .ok (.idiv, 1) := by decide +kernel
theorem d_CountsRule_firstPoints_31 : decode b_CountsRule_firstPoints 31 = .ok (.ireturn, 1) := by decide +kernel
theorem d_CountsRule_rankByCut_0 : decode b_CountsRule_rankByCut 0 = .ok (.aload_n 0, 1) := by decide +kernel
theorem d_CountsRule_rankByCut_1 : decode b_CountsRule_rankByCut 1 = .ok (.iconst 0, 1) := by decide +kernel
theorem d_CountsRule_rankByCut_2 : decode b_CountsRule_rankByCut 2 = .ok (.putfield 37, 3) := by decide +kernel
theorem d_CountsRule_rankByCut_5 : decode b_CountsRule_rankByCut 5 = .ok (.iconst 0, 1) := by decide +kernel
theorem d_CountsRule_rankByCut_6 : decode b_CountsRule_rankByCut 6 = .ok (.istore_n 2, 1) := by decide +kernel
theorem d_CountsRule_rankByCut_7 : decode b_CountsRule_rankByCut 7 = .ok (.iload_n 2, 1) := by decide +kernel
theorem d_CountsRule_rankByCut_8 : decode b_CountsRule_rankByCut 8 = .ok (.sipush 256, 3) := by decide +kernel
theorem d_CountsRule_rankByCut_11 : decode b_CountsRule_rankByCut 11 = .ok (.if_icmp .ge 83, 3) := by decide +kernel
theorem d_CountsRule_rankByCut_14 : decode b_CountsRule_rankByCut 14 = .ok (.aload_n 1, 1) := by decide +kernel
theorem d_CountsRule_rankByCut_15 : decode b_CountsRule_rankByCut 15 = .ok (.iload_n 2, 1) := by decide +kernel
theorem d_CountsRule_rankByCut_16 : decode b_CountsRule_rankByCut 16 = .ok (.iaload, 1) := by decide +kernel
theorem d_CountsRule_rankByCut_17 : decode b_CountsRule_rankByCut 17 = .ok (.ifCond .le 71, 3) := by decide +kernel
theorem d_CountsRule_rankByCut_20 : decode b_CountsRule_rankByCut 20 = .ok (.aload_n 0, 1) := by decide +kernel
theorem d_CountsRule_rankByCut_21 : decode b_CountsRule_rankByCut 21 = .ok (.getfield 37, 3) := by decide +kernel
theorem d_CountsRule_rankByCut_24 : decode b_CountsRule_rankByCut 24 = .ok (.istore_n 3, 1) := by decide +kernel
theorem d_CountsRule_rankByCut_25 : decode b_CountsRule_rankByCut 25 = .ok (.iload_n 3, 1) := by decide +kernel
theorem d_CountsRule_rankByCut_26 : decode b_CountsRule_rankByCut 26 = .ok (.ifCond .le 45, 3) := by decide +kernel
theorem d_CountsRule_rankByCut_29 : decode b_CountsRule_rankByCut 29 = .ok (.aload_n 0, 1) := by decide +kernel
theorem d_CountsRule_rankByCut_30 : decode b_CountsRule_rankByCut 30 = .ok (.getfield 9, 3) := by decide +kernel
theorem d_CountsRule_rankByCut_33 : decode b_CountsRule_rankByCut 33 = .ok (.aload_n 0, 1) := by decide +kernel
theorem d_CountsRule_rankByCut_34 : decode b_CountsRule_rankByCut 34 = .ok (.getfield 15, 3) := by decide +kernel
theorem d_CountsRule_rankByCut_37 : decode b_CountsRule_rankByCut 37 = .ok (.iload_n 3, 1) := by decide +kernel
theorem d_CountsRule_rankByCut_38 : decode b_CountsRule_rankByCut 38 = .ok (.iconst 1, 1) := by decide +kernel
theorem d_CountsRule_rankByCut_39 : decode b_CountsRule_rankByCut 39 = .ok (.isub, 1) := by decide +kernel
theorem d_CountsRule_rankByCut_40 : decode b_CountsRule_rankByCut 40 = .ok (.iaload, 1) := by decide +kernel
theorem d_CountsRule_rankByCut_41 : decode b_CountsRule_rankByCut 41 = .ok (.iaload, 1) := by decide +kernel
theorem d_CountsRule_rankByCut_42 : decode b_CountsRule_rankByCut 42 = .ok (.aload_n 0, 1) := by decide +kernel
theorem d_CountsRule_rankByCut_43 : decode b_CountsRule_rankByCut 43 = .ok (.getfield 9, 3) := by decide +kernel
theorem d_CountsRule_rankByCut_46 : decode b_CountsRule_rankByCut 46 = .ok (.iload_n 2, 1) := by decide +kernel
theorem d_CountsRule_rankByCut_47 : decode b_CountsRule_rankByCut 47 = .ok (.iaload, 1) := by decide +kernel
theorem d_CountsRule_rankByCut_48 : decode b_CountsRule_rankByCut 48 = .ok (.if_icmp .ge 23, 3) := by decide +kernel
theorem d_CountsRule_rankByCut_51 : decode b_CountsRule_rankByCut 51 = .ok (.aload_n 0, 1) := by decide +kernel
theorem d_CountsRule_rankByCut_52 : decode b_CountsRule_rankByCut 52 = .ok (.getfield 15, 3) := by decide +kernel
theorem d_CountsRule_rankByCut_55 : decode b_CountsRule_rankByCut 55 = .ok (.iload_n 3, 1) := by decide +kernel
theorem d_CountsRule_rankByCut_56 : decode b_CountsRule_rankByCut 56 = .ok (.aload_n 0, 1) := by decide +kernel
theorem d_CountsRule_rankByCut_57 : decode b_CountsRule_rankByCut 57 = .ok (.getfield 15, 3) := by decide +kernel
theorem d_CountsRule_rankByCut_60 : decode b_CountsRule_rankByCut 60 = .ok (.iload_n 3, 1) := by decide +kernel
theorem d_CountsRule_rankByCut_61 : decode b_CountsRule_rankByCut 61 = .ok (.iconst 1, 1) := by decide +kernel
theorem d_CountsRule_rankByCut_62 : decode b_CountsRule_rankByCut 62 = .ok (.isub, 1) := by decide +kernel
theorem d_CountsRule_rankByCut_63 : decode b_CountsRule_rankByCut 63 = .ok (.iaload, 1) := by decide +kernel
theorem d_CountsRule_rankByCut_64 : decode b_CountsRule_rankByCut 64 = .ok (.iastore, 1) := by decide +kernel
theorem d_CountsRule_rankByCut_65 : decode b_CountsRule_rankByCut 65 = .ok (.iinc 3 (-1), 3) := by decide +kernel
theorem d_CountsRule_rankByCut_68 : decode b_CountsRule_rankByCut 68 = .ok (.goto (-43), 3) := by decide +kernel
theorem d_CountsRule_rankByCut_71 : decode b_CountsRule_rankByCut 71 = .ok (.aload_n 0, 1) := by decide +kernel
theorem d_CountsRule_rankByCut_72 : decode b_CountsRule_rankByCut 72 = .ok (.getfield 15, 3) := by decide +kernel
theorem d_CountsRule_rankByCut_75 : decode b_CountsRule_rankByCut 75 = .ok (.iload_n 3, 1) := by decide +kernel
theorem d_CountsRule_rankByCut_76 : decode b_CountsRule_rankByCut 76 = .ok (.iload_n 2, 1) := by decide +kernel
theorem d_CountsRule_rankByCut_77 : decode b_CountsRule_rankByCut 77 = .ok (.iastore, 1) := by decide +kernel
theorem d_CountsRule_rankByCut_78 : decode b_CountsRule_rankByCut 78 = .ok (.aload_n 0, 1) := by decide +kernel
theorem d_CountsRule_rankByCut_79 : decode b_CountsRule_rankByCut 79 = .ok (.dup, 1) := by decide +kernel
theorem d_CountsRule_rankByCut_80 : decode b_CountsRule_rankByCut 80 = .ok (.getfield 37, 3) := by decide +kernel
theorem d_CountsRule_rankByCut_83 : decode b_CountsRule_rankByCut 83 = .ok (.iconst 1, 1) := by decide +kernel
theorem d_CountsRule_rankByCut_84 : decode b_CountsRule_rankByCut 84 = .ok (.iadd, 1) := by decide +kernel
theorem d_CountsRule_rankByCut_85 : decode b_CountsRule_rankByCut 85 = .ok (.putfield 37, 3) := by decide +kernel
theorem d_CountsRule_rankByCut_88 : decode b_CountsRule_rankByCut 88 = .ok (.iinc 2 1, 3) := by decide +kernel
theorem d_CountsRule_rankByCut_91 : decode b_CountsRule_rankByCut 91 = .ok (.goto (-84), 3) := by decide +kernel
theorem d_CountsRule_rankByCut_94 : decode b_CountsRule_rankByCut 94 = .ok (.return_, 1) := by decide +kernel
theorem d_CountsRule_giveMissing_0 : decode b_CountsRule_giveMissing 0 = .ok (.iconst 0, 1) := by decide +kernel
theorem d_CountsRule_giveMissing_1 : decode b_CountsRule_giveMissing 1 = .ok (.istore_n 3, 1) := by decide +kernel
theorem d_CountsRule_giveMissing_2 : decode b_CountsRule_giveMissing 2 = .ok (.iconst 0, 1) := by decide +kernel
theorem d_CountsRule_giveMissing_3 : decode b_CountsRule_giveMissing 3 = .ok (.istore 4, 2) := by decide +kernel
theorem d_CountsRule_giveMissing_5 : decode b_CountsRule_giveMissing 5 = .ok (.iload 4, 2) := by decide +kernel
theorem d_CountsRule_giveMissing_7 : decode b_CountsRule_giveMissing 7 = .ok (.iload_n 2, 1) := by decide +kernel
theorem d_CountsRule_giveMissing_8 : decode b_CountsRule_giveMissing 8 = .ok (.if_icmp .ge 46, 3) := by decide +kernel
theorem d_CountsRule_giveMissing_11 : decode b_CountsRule_giveMissing 11 = .ok (.aload_n 0, 1) := by decide +kernel
theorem d_CountsRule_giveMissing_12 : decode b_CountsRule_giveMissing 12 = .ok (.getfield 37, 3) := by decide +kernel
theorem d_CountsRule_giveMissing_15 : decode b_CountsRule_giveMissing 15 = .ok (.ifCond .le 39, 3) := by decide +kernel
theorem d_CountsRule_giveMissing_18 : decode b_CountsRule_giveMissing 18 = .ok (.aload_n 1, 1) := by decide +kernel
theorem d_CountsRule_giveMissing_19 : decode b_CountsRule_giveMissing 19 = .ok (.aload_n 0, 1) := by decide +kernel
theorem d_CountsRule_giveMissing_20 : decode b_CountsRule_giveMissing 20 = .ok (.getfield 15, 3) := by decide +kernel
theorem d_CountsRule_giveMissing_23 : decode b_CountsRule_giveMissing 23 = .ok (.iload_n 3, 1) := by decide +kernel
theorem d_CountsRule_giveMissing_24 : decode b_CountsRule_giveMissing 24 = .ok (.iaload, 1) := by decide +kernel
theorem d_CountsRule_giveMissing_25 : decode b_CountsRule_giveMissing 25 = .ok (.dup2, 1) := by decide +kernel
theorem d_CountsRule_giveMissing_26 : decode b_CountsRule_giveMissing 26 = .ok (.iaload, 1) := by decide +kernel
theorem d_CountsRule_giveMissing_27 : decode b_CountsRule_giveMissing 27 = .ok (.iconst 1, 1) := by decide +kernel
theorem d_CountsRule_giveMissing_28 : decode b_CountsRule_giveMissing 28 = .ok (.iadd, 1) := by decide +kernel
theorem d_CountsRule_giveMissing_29 : decode b_CountsRule_giveMissing 29 = .ok (.iastore, 1) := by decide +kernel
theorem d_CountsRule_giveMissing_30 : decode b_CountsRule_giveMissing 30 = .ok (.iload_n 3, 1) := by decide +kernel
theorem d_CountsRule_giveMissing_31 : decode b_CountsRule_giveMissing 31 = .ok (.iconst 1, 1) := by decide +kernel
theorem d_CountsRule_giveMissing_32 : decode b_CountsRule_giveMissing 32 = .ok (.iadd, 1) := by decide +kernel
theorem d_CountsRule_giveMissing_33 : decode b_CountsRule_giveMissing 33 = .ok (.aload_n 0, 1) := by decide +kernel
theorem d_CountsRule_giveMissing_34 : decode b_CountsRule_giveMissing 34 = .ok (.getfield 37, 3) := by decide +kernel
theorem d_CountsRule_giveMissing_37 : decode b_CountsRule_giveMissing 37 = .ok (.if_icmp .ge 9, 3) := by decide +kernel
theorem d_CountsRule_giveMissing_40 : decode b_CountsRule_giveMissing 40 = .ok (.iload_n 3, 1) := by decide +kernel
theorem d_CountsRule_giveMissing_41 : decode b_CountsRule_giveMissing 41 = .ok (.iconst 1, 1) := by decide +kernel
theorem d_CountsRule_giveMissing_42 : decode b_CountsRule_giveMissing 42 = .ok (.iadd, 1) := by decide +kernel
theorem d_CountsRule_giveMissing_43 : decode b_CountsRule_giveMissing 43 = .ok (.goto 4, 3) := by decide +kernel
theorem d_CountsRule_giveMissing_47 : decode b_CountsRule_giveMissing 47 = .ok (.istore_n 3, 1) := by decide +kernel
theorem d_CountsRule_giveMissing_48 : decode b_CountsRule_giveMissing 48 = .ok (.iinc 4 1, 3) := by decide +kernel
theorem d_CountsRule_giveMissing_51 : decode b_CountsRule_giveMissing 51 = .ok (.goto (-46), 3) := by decide +kernel
theorem d_CountsRule_giveMissing_54 : decode b_CountsRule_giveMissing 54 = .ok (.return_, 1) := by decide +kernel
theorem d_CountsRule_makePoints_0 : decode b_CountsRule_makePoints 0 = .ok (.iconst 0, 1) := by decide +kernel
theorem d_CountsRule_makePoints_1 : decode b_CountsRule_makePoints 1 = .ok (.istore 4, 2) := by decide +kernel
theorem d_CountsRule_makePoints_3 : decode b_CountsRule_makePoints 3 = .ok (.iconst 0, 1) := by decide +kernel
theorem d_CountsRule_makePoints_4 : decode b_CountsRule_makePoints 4 = .ok (.istore 5, 2) := by decide +kernel
theorem d_CountsRule_makePoints_6 : decode b_CountsRule_makePoints 6 = .ok (.iconst 0, 1) := by decide +kernel
theorem d_CountsRule_makePoints_7 : decode b_CountsRule_makePoints 7 = .ok (.istore 6, 2) := by decide +kernel
theorem d_CountsRule_makePoints_9 : decode b_CountsRule_makePoints 9 = .ok (.iload 6, 2) := by decide +kernel
theorem d_CountsRule_makePoints_11 : decode b_CountsRule_makePoints 11 = .ok (.sipush 256, 3) := by decide +kernel
theorem d_CountsRule_makePoints_14 : decode b_CountsRule_makePoints 14 = .ok (.if_icmp .ge 35, 3) := by decide +kernel
theorem d_CountsRule_makePoints_17 : decode b_CountsRule_makePoints 17 = .ok (.iload 4, 2) := by decide +kernel
theorem d_CountsRule_makePoints_19 : decode b_CountsRule_makePoints 19 = .ok (.aload_n 1, 1) := by decide +kernel
theorem d_CountsRule_makePoints_20 : decode b_CountsRule_makePoints 20 = .ok (.iload 6, 2) := by decide +kernel
theorem d_CountsRule_makePoints_22 : decode b_CountsRule_makePoints 22 = .ok (.iaload, 1) := by decide +kernel
theorem d_CountsRule_makePoints_23 : decode b_CountsRule_makePoints 23 = .ok (.iadd, 1) := by decide +kernel
theorem d_CountsRule_makePoints_24 : decode b_CountsRule_makePoints 24 = .ok (.istore 4, 2) := by decide +kernel
theorem d_CountsRule_makePoints_26 : decode b_CountsRule_makePoints 26 = .ok (.iload 5, 2) := by decide +kernel
theorem d_CountsRule_makePoints_28 : decode b_CountsRule_makePoints 28 = .ok (.aload_n 1, 1) := by decide +kernel
theorem d_CountsRule_makePoints_29 : decode b_CountsRule_makePoints 29 = .ok (.iload 6, 2) := by decide +kernel
theorem d_CountsRule_makePoints_31 : decode b_CountsRule_makePoints 31 = .ok (.iaload, 1) := by decide +kernel
theorem d_CountsRule_makePoints_32 : decode b_CountsRule_makePoints 32 = .ok (.ifCond .le 7, 3) := by decide +kernel
theorem d_CountsRule_makePoints_35 : decode b_CountsRule_makePoints 35 = .ok (.iconst 1, 1) := by decide +kernel
theorem d_CountsRule_makePoints_36 : decode b_CountsRule_makePoints 36 = .ok (.goto 4, 3) := by decide +kernel
theorem d_CountsRule_makePoints_39 : decode b_CountsRule_makePoints 39 = .ok (.iconst 0, 1) := by decide +kernel
theorem d_CountsRule_makePoints_40 : decode b_CountsRule_makePoints 40 = .ok (.iadd, 1) := by decide +kernel
theorem d_CountsRule_makePoints_41 : decode b_CountsRule_makePoints 41 = .ok (.istore 5, 2) := by decide +kernel
theorem d_CountsRule_makePoints_43 : decode b_CountsRule_makePoints 43 = .ok (.iinc 6 1, 3) := by decide +kernel
theorem d_CountsRule_makePoints_46 : decode b_CountsRule_makePoints 46 = .ok (.goto (-37), 3) := by decide +kernel
theorem d_CountsRule_makePoints_49 : decode b_CountsRule_makePoints 49 = .ok (.iload 4, 2) := by decide +kernel
theorem d_CountsRule_makePoints_51 : decode b_CountsRule_makePoints 51 = .ok (.ifCond .le 11, 3) := by decide +kernel
theorem d_CountsRule_makePoints_54 : decode b_CountsRule_makePoints 54 = .ok (.iload 5, 2) := by decide +kernel
theorem d_CountsRule_makePoints_56 : decode b_CountsRule_makePoints 56 = .ok (.iconst 1, 1) := by decide +kernel
theorem d_CountsRule_makePoints_57 : decode b_CountsRule_makePoints 57 = .ok (.iload_n 2, 1) := by decide +kernel
theorem d_CountsRule_makePoints_58 : decode b_CountsRule_makePoints 58 = .ok (.ishl, 1) := by decide +kernel
theorem d_CountsRule_makePoints_59 : decode b_CountsRule_makePoints 59 = .ok (.if_icmp .le 5, 3) := by decide +kernel
theorem d_CountsRule_makePoints_62 : decode b_CountsRule_makePoints 62 = .ok (.iconst 0, 1) := by decide +kernel
theorem d_CountsRule_makePoints_63 : decode b_CountsRule_makePoints 63 = .ok (.ireturn, 1) := by decide +kernel
theorem d_CountsRule_makePoints_64 : decode b_CountsRule_makePoints 64 = .ok (.iconst 0, 1) := by decide +kernel
theorem d_CountsRule_makePoints_65 : decode b_CountsRule_makePoints 65 = .ok (.istore 6, 2) := by decide +kernel
theorem d_CountsRule_makePoints_67 : decode b_CountsRule_makePoints 67 = .ok (.iconst 0, 1) := by decide +kernel
theorem d_CountsRule_makePoints_68 : decode b_CountsRule_makePoints 68 = .ok (.istore 7, 2) := by decide +kernel
theorem d_CountsRule_makePoints_70 : decode b_CountsRule_makePoints 70 = .ok (.iload 7, 2) := by decide +kernel
theorem d_CountsRule_makePoints_72 : decode b_CountsRule_makePoints 72 = .ok (.sipush 256, 3) := by decide +kernel
theorem d_CountsRule_makePoints_75 : decode b_CountsRule_makePoints 75 = .ok (.if_icmp .ge 39, 3) := by decide +kernel
theorem d_CountsRule_makePoints_78 : decode b_CountsRule_makePoints 78 = .ok (.aload_n 3, 1) := by decide +kernel
theorem d_CountsRule_makePoints_79 : decode b_CountsRule_makePoints 79 = .ok (.iload 7, 2) := by decide +kernel
theorem d_CountsRule_makePoints_81 : decode b_CountsRule_makePoints 81 = .ok (.aload_n 0, 1) := by decide +kernel
theorem d_CountsRule_makePoints_82 : decode b_CountsRule_makePoints 82 = .ok (.iload 7, 2) := by decide +kernel
theorem d_CountsRule_makePoints_84 : decode b_CountsRule_makePoints 84 = .ok (.aload_n 1, 1) := by decide +kernel
theorem d_CountsRule_makePoints_85 : decode b_CountsRule_makePoints 85 = .ok (.iload 7, 2) := by decide +kernel
theorem d_CountsRule_makePoints_87 : decode b_CountsRule_makePoints 87 = .ok (.iaload, 1) := by decide +kernel
theorem d_CountsRule_makePoints_88 : decode b_CountsRule_makePoints 88 = .ok (.iload_n 2, 1) := by decide +kernel
theorem d_CountsRule_makePoints_89 : decode b_CountsRule_makePoints 89 = .ok (.ishl, 1) := by decide +kernel
theorem d_CountsRule_makePoints_90 : decode b_CountsRule_makePoints 90 = .ok (.iload 4, 2) := by decide +kernel
theorem d_CountsRule_makePoints_92 : decode b_CountsRule_makePoints 92 = .ok (.invokevirtual 18, 3) := by decide +kernel
theorem d_CountsRule_makePoints_95 : decode b_CountsRule_makePoints 95 = .ok (.iastore, 1) := by decide +kernel
theorem d_CountsRule_makePoints_96 : decode b_CountsRule_makePoints 96 = .ok (.iload 6, 2) := by decide +kernel
theorem d_CountsRule_makePoints_98 : decode b_CountsRule_makePoints 98 = .ok (.aload_n 3, 1) := by decide +kernel
theorem d_CountsRule_makePoints_99 : decode b_CountsRule_makePoints 99 = .ok (.iload 7, 2) := by decide +kernel
theorem d_CountsRule_makePoints_101 : decode b_CountsRule_makePoints 101 = .ok (.iaload, 1) := by decide +kernel
theorem d_CountsRule_makePoints_102 : decode b_CountsRule_makePoints 102 = .ok (.invokestatic 22, 3) := by decide +kernel
theorem d_CountsRule_makePoints_105 : decode b_CountsRule_makePoints 105 = .ok (.iadd, 1) := by decide +kernel
theorem d_CountsRule_makePoints_106 : decode b_CountsRule_makePoints 106 = .ok (.istore 6, 2) := by decide +kernel
theorem d_CountsRule_makePoints_108 : decode b_CountsRule_makePoints 108 = .ok (.iinc 7 1, 3) := by decide +kernel
theorem d_CountsRule_makePoints_111 : decode b_CountsRule_makePoints 111 = .ok (.goto (-41), 3) := by decide +kernel
theorem d_CountsRule_makePoints_114 : decode b_CountsRule_makePoints 114 = .ok (.aload_n 0, 1) := by decide +kernel
theorem d_CountsRule_makePoints_115 : decode b_CountsRule_makePoints 115 = .ok (.aload_n 3, 1) := by decide +kernel
theorem d_CountsRule_makePoints_116 : decode b_CountsRule_makePoints 116 = .ok (.invokevirtual 26, 3) := by decide +kernel
theorem d_CountsRule_makePoints_119 : decode b_CountsRule_makePoints 119 = .ok (.aload_n 0, 1) := by decide +kernel
theorem d_CountsRule_makePoints_120 : decode b_CountsRule_makePoints 120 = .ok (.aload_n 3, 1) := by decide +kernel
theorem d_CountsRule_makePoints_121 : decode b_CountsRule_makePoints 121 = .ok (.iconst 1, 1) := by decide +kernel
theorem d_CountsRule_makePoints_122 : decode b_CountsRule_makePoints 122 = .ok (.iload_n 2, 1) := by decide +kernel
theorem d_CountsRule_makePoints_123 : decode b_CountsRule_makePoints 123 = .ok (.ishl, 1) := by decide +kernel
theorem d_CountsRule_makePoints_124 : decode b_CountsRule_makePoints 124 = .ok (.iload 6, 2) := by decide +kernel
theorem d_CountsRule_makePoints_126 : decode b_CountsRule_makePoints 126 = .ok (.isub, 1) := by decide +kernel
theorem d_CountsRule_makePoints_127 : decode b_CountsRule_makePoints 127 = .ok (.invokevirtual 30, 3) := by decide +kernel
theorem d_CountsRule_makePoints_130 : decode b_CountsRule_makePoints 130 = .ok (.aload_n 0, 1) := by decide +kernel
theorem d_CountsRule_makePoints_131 : decode b_CountsRule_makePoints 131 = .ok (.aload_n 3, 1) := by decide +kernel
theorem d_CountsRule_makePoints_132 : decode b_CountsRule_makePoints 132 = .ok (.iload 6, 2) := by decide +kernel
theorem d_CountsRule_makePoints_134 : decode b_CountsRule_makePoints 134 = .ok (.iconst 1, 1) := by decide +kernel
theorem d_CountsRule_makePoints_135 : decode b_CountsRule_makePoints 135 = .ok (.iload_n 2, 1) := by decide +kernel
theorem d_CountsRule_makePoints_136 : decode b_CountsRule_makePoints 136 = .ok (.ishl, 1) := by decide +kernel
theorem d_CountsRule_makePoints_137 : decode b_CountsRule_makePoints 137 = .ok (.isub, 1) := by decide +kernel
theorem d_CountsRule_makePoints_138 : decode b_CountsRule_makePoints 138 = .ok (.invokevirtual 34, 3) := by decide +kernel
theorem d_CountsRule_makePoints_141 : decode b_CountsRule_makePoints 141 = .ok (.iconst 1, 1) := by decide +kernel
theorem d_CountsRule_makePoints_142 : decode b_CountsRule_makePoints 142 = .ok (.ireturn, 1) := by decide +kernel
theorem d_SC_share_0 : decode b_SC_share 0 = .ok (.iload_n 1, 1) := by decide +kernel
theorem d_SC_share_1 : decode b_SC_share 1 = .ok (.invokestatic 77, 3) := by decide +kernel
theorem d_SC_share_4 : decode b_SC_share 4 = .ok (.ifCond .eq 22, 3) := by decide +kernel
theorem d_SC_share_7 : decode b_SC_share 7 = .ok (.aload_n 0, 1) := by decide +kernel
theorem d_SC_share_8 : decode b_SC_share 8 = .ok (.getfield 33, 3) := by decide +kernel
theorem d_SC_share_11 : decode b_SC_share 11 = .ok (.aload_n 0, 1) := by decide +kernel
theorem d_SC_share_12 : decode b_SC_share 12 = .ok (.getfield 9, 3) := by decide +kernel
theorem d_SC_share_15 : decode b_SC_share 15 = .ok (.iload_n 1, 1) := by decide +kernel
theorem d_SC_share_16 : decode b_SC_share 16 = .ok (.aload_n 0, 1) := by decide +kernel
theorem d_SC_share_17 : decode b_SC_share 17 = .ok (.getfield 13, 3) := by decide +kernel
theorem d_SC_share_20 : decode b_SC_share 20 = .ok (.invokevirtual 80, 3) := by decide +kernel
theorem d_SC_share_23 : decode b_SC_share 23 = .ok (.ifCond .ne 5, 3) := by decide +kernel
theorem d_SC_share_26 : decode b_SC_share 26 = .ok (.iconst 0, 1) := by decide +kernel
theorem d_SC_share_27 : decode b_SC_share 27 = .ok (.ireturn, 1) := by decide +kernel
theorem d_SC_share_28 : decode b_SC_share 28 = .ok (.aload_n 0, 1) := by decide +kernel
theorem d_SC_share_29 : decode b_SC_share 29 = .ok (.getfield 26, 3) := by decide +kernel
theorem d_SC_share_32 : decode b_SC_share 32 = .ok (.iload_n 1, 1) := by decide +kernel
theorem d_SC_share_33 : decode b_SC_share 33 = .ok (.aload_n 0, 1) := by decide +kernel
theorem d_SC_share_34 : decode b_SC_share 34 = .ok (.getfield 13, 3) := by decide +kernel
theorem d_SC_share_37 : decode b_SC_share 37 = .ok (.invokevirtual 84, 3) := by decide +kernel
theorem d_SC_share_40 : decode b_SC_share 40 = .ok (.iconst 1, 1) := by decide +kernel
theorem d_SC_share_41 : decode b_SC_share 41 = .ok (.ireturn, 1) := by decide +kernel
abbrev rm_Rule_firstPoints : Room := { frames := 0, cells := 0, slots := 0, locals := 0 }
set_option maxHeartbeats 4000000 in
set_option maxRecDepth 100000 in
theorem c_Rule_firstPoints (l : Launch) (D : va_G) (cI cB cZ : ClassId) (sz : Nat) (h : Nat) (u1 : Nat) (u2 : Nat) (rl : Int) (kc : Nat → Int) (k : Nat) (y : Int) (t1 : Int) (hk : k < 256) (hy : 0 ≤ y ∧ y < 2147483648) (ht : 0 < t1 ∧ t1 < 2147483648) : Met l y_CountsRule_firstPoints (.code y_CountsRule_firstPoints b_CountsRule_firstPoints 4 (some .int) :: zT) rm_Rule_firstPoints (zPc D classes (TY cI cB cZ) [(h, .inr (2, [.ref u1, .ref u2, .int (iZ rl)])), (u1, .inl (cI, 256, .inl (zA kc)))] sz [.ref h, .int (iZ (k : Int)), .int (iZ y), .int (iZ t1)]) (zFi (S := Nat → Int) D classes (fun z u => z = fvF y t1 ∧ ((y ≤ 0 ∧ u = kc) ∨ (0 < y ∧ u = zu kc k (y % t1)))) (fun u => [(h, .inr (2, [.ref u1, .ref u2, .int (iZ rl)])), (u1, .inl (cI, 256, .inl (zA u)))]) (va_A [(h, .inr (2, [.ref u1, .ref u2, .int (iZ rl)])), (u1, .inl (cI, 256, .inl (zA kc)))] sz)) 0 0 (va_A [(h, .inr (2, [.ref u1, .ref u2, .int (iZ rl)])), (u1, .inl (cI, 256, .inl (zA kc)))] sz) := by
  refine z_ofi (by decide) (Nat.le_of_ble_eq_true rfl) (Or.inl rfl) ?_
  intro p e s m args below meth c A Q E jA jK jret H locs jP jD jS ls jl
  obtain ⟨jx, jb, jrt, jml, jown, jts, jlk⟩ := E
  have jown : s.vm.findClass R_CountsRule = some m.cls := jown
  have jl : lv_has ls 4 [(0, .ref h), (1, .int (iZ (k : Int))), (2, .int (iZ y)), (3, .int (iZ t1))] := jl
  refine lv_iload_n jx jb d_CountsRule_firstPoints_0 rfl (lv_at jl 2 rfl) ?_
  refine z_if_le (tgt := 8) jx jb d_CountsRule_firstPoints_1 (by decide) ⟨by omega, by omega⟩ (fun hc1 => ?_) (fun hc1 => ?_)
  ·
    refine lv_iconst (v := iZ 0) jx jb d_CountsRule_firstPoints_8 rfl ?_
    exact jret _ _ _ (kc) _ _ (Or.inl rfl) (⟨(fv_z hc1).symm, Or.inl ⟨hc1, rfl⟩⟩) (jP.sub [0, 1] rfl) (jD.sub [0, 1] (by decide) rfl) jS d_CountsRule_firstPoints_9
  ·
    refine lv_iload_n jx jb d_CountsRule_firstPoints_4 rfl (lv_at jl 3 rfl) ?_
    refine z_if_gt (tgt := 10) jx jb d_CountsRule_firstPoints_5 (by decide) ⟨by omega, by omega⟩ (fun hc5 => ?_) (fun hc5 => ?_)
    ·
      refine lv_aload_n jx jb d_CountsRule_firstPoints_10 rfl (lv_at jl 0 rfl) ?_
      refine va_get (D := D) (ci := 2) (v := .ref u1) (C := R_CountsRule) (T := F_CountsRule) (N := 3) jx jb jts i_CountsRule jown jK.1 jP 0 rfl rfl 0 (by decide) (jts _ fl_CountsRule_9) (fun _ h9 => h9) rfl d_CountsRule_firstPoints_11 ?_
      refine lv_iload_n jx jb d_CountsRule_firstPoints_14 rfl (lv_at jl 1 rfl) ?_
      refine lv_iload_n jx jb d_CountsRule_firstPoints_15 rfl (lv_at jl 2 rfl) ?_
      refine lv_iload_n jx jb d_CountsRule_firstPoints_16 rfl (lv_at jl 3 rfl) ?_
      refine z_irem jx jb d_CountsRule_firstPoints_17 (by omega) ?_
      refine z_iast jx jb jK.1 jP jD jS 1 0 rfl rfl k (by omega) d_CountsRule_firstPoints_18 (fun H locs jP jD jS => ?_)
      have jP : va_P D classes [(h, .inr (2, [.ref u1, .ref u2, .int (iZ rl)])), (u1, .inl (cI, 256, .inl (zA (zu kc k (y % t1)))))] H := jP
      have jD : va_D A [(h, .inr (2, [.ref u1, .ref u2, .int (iZ rl)])), (u1, .inl (cI, 256, .inl (zA (zu kc k (y % t1)))))] := jD
      refine lv_iload_n jx jb d_CountsRule_firstPoints_19 rfl (lv_at jl 2 rfl) ?_
      refine lv_iload_n jx jb d_CountsRule_firstPoints_20 rfl (lv_at jl 3 rfl) ?_
      refine z_icmp_ge (tgt := 28) jx jb d_CountsRule_firstPoints_21 (by decide) ⟨⟨by omega, by omega⟩, ⟨by omega, by omega⟩⟩ (fun hc21 => ?_) (fun hc21 => ?_)
      ·
        refine lv_iload_n jx jb d_CountsRule_firstPoints_28 rfl (lv_at jl 2 rfl) ?_
        refine lv_iload_n jx jb d_CountsRule_firstPoints_29 rfl (lv_at jl 3 rfl) ?_
        refine z_idiv jx jb d_CountsRule_firstPoints_30 (by omega) ?_
        exact jret _ _ _ ((zu kc k (y % t1))) _ _ (Or.inl rfl) (by first | exact ⟨(fv_m hc1 hc21).symm, Or.inr ⟨hc1, rfl⟩⟩ | exact ⟨(fv_q hc1 hc21).symm, Or.inr ⟨hc1, rfl⟩⟩) (jP.sub [0, 1] rfl) (jD.sub [0, 1] (by decide) rfl) jS d_CountsRule_firstPoints_31
      ·
        refine lv_iconst (v := iZ (-1)) jx jb d_CountsRule_firstPoints_24 rfl ?_
        refine lv_goto (tgt := 31) jx jb d_CountsRule_firstPoints_25 (by decide) ?_
        exact jret _ _ _ ((zu kc k (y % t1))) _ _ (Or.inl rfl) (by first | exact ⟨(fv_m hc1 hc21).symm, Or.inr ⟨hc1, rfl⟩⟩ | exact ⟨(fv_q hc1 hc21).symm, Or.inr ⟨hc1, rfl⟩⟩) (jP.sub [0, 1] rfl) (jD.sub [0, 1] (by decide) rfl) jS d_CountsRule_firstPoints_31
    ·
      exfalso; omega
abbrev rm_Rule_rankByCut : Room := { frames := 0, cells := 0, slots := 0, locals := 0 }
set_option maxHeartbeats 4000000 in
set_option maxRecDepth 100000 in
theorem c_Rule_rankByCut (l : Launch) (D : va_G) (cI cB cZ : ClassId) (sz : Nat) (h : Nat) (u1 : Nat) (u2 : Nat) (rl : Int) (q : Nat) (kc : Nat → Int) (rk : Nat → Int) (fp : Nat → Int) (hfp : ∀ k, k < 256 → -1 ≤ fp k ∧ fp k ≤ 4096) (hkc : ∀ k, k < 256 → 0 < fp k → 0 ≤ kc k ∧ kc k < 2147483648) : Met l y_CountsRule_rankByCut (.code y_CountsRule_rankByCut b_CountsRule_rankByCut 4 none :: zT) rm_Rule_rankByCut (zPc D classes (TY cI cB cZ) [(h, .inr (2, [.ref u1, .ref u2, .int (iZ rl)])), (u1, .inl (cI, 256, .inl (zA kc))), (u2, .inl (cI, 256, .inl (zA rk))), (q, .inl (cI, 256, .inl (zA fp)))] sz [.ref h, .ref q]) (zFv (S := Int × (Nat → Int)) D classes (fun u => rkI fp kc 256 u.1 u.2) (fun u => [(h, .inr (2, [.ref u1, .ref u2, .int (iZ u.1)])), (u1, .inl (cI, 256, .inl (zA kc))), (u2, .inl (cI, 256, .inl (zA u.2))), (q, .inl (cI, 256, .inl (zA fp)))]) (va_A [(h, .inr (2, [.ref u1, .ref u2, .int (iZ rl)])), (u1, .inl (cI, 256, .inl (zA kc))), (u2, .inl (cI, 256, .inl (zA rk))), (q, .inl (cI, 256, .inl (zA fp)))] sz)) 0 0 (va_A [(h, .inr (2, [.ref u1, .ref u2, .int (iZ rl)])), (u1, .inl (cI, 256, .inl (zA kc))), (u2, .inl (cI, 256, .inl (zA rk))), (q, .inl (cI, 256, .inl (zA fp)))] sz) := by
  refine z_ofv (by decide) (Nat.le_of_ble_eq_true rfl) rfl ?_
  intro p e s m args below meth c A Q E jmn jA jK jret H locs jP jD jS ls jl
  obtain ⟨jx, jb, jrt, jml, jown, jts, jlk⟩ := E
  have jown : s.vm.findClass R_CountsRule = some m.cls := jown
  have jl : lv_has ls 4 [(0, .ref h), (1, .ref q)] := jl
  refine lv_aload_n jx jb d_CountsRule_rankByCut_0 rfl (lv_at jl 0 rfl) ?_
  refine lv_iconst (v := iZ 0) jx jb d_CountsRule_rankByCut_1 rfl ?_
  refine va_put (D := D) (ci := 2) (v := .int (iZ 0)) (ty := .int) (C := R_CountsRule) (T := F_CountsRule) (N := 3) jx jb jts i_CountsRule t_CountsRule t_CountsRule_ok n_CountsRule jown jK.1 jP jD jS 0 rfl rfl 2 (by decide) (jts _ fl_CountsRule_37) (fun _ h9 => h9) rfl (by decide +kernel) rfl rfl (Nat.le_of_ble_eq_true rfl) d_CountsRule_rankByCut_2 (fun H locs jP jD jS => ?_)
  have jP : va_P D classes [(h, .inr (2, [.ref u1, .ref u2, .int (iZ 0)])), (u1, .inl (cI, 256, .inl (zA kc))), (u2, .inl (cI, 256, .inl (zA rk))), (q, .inl (cI, 256, .inl (zA fp)))] H := jP
  have jD : va_D A [(h, .inr (2, [.ref u1, .ref u2, .int (iZ 0)])), (u1, .inl (cI, 256, .inl (zA kc))), (u2, .inl (cI, 256, .inl (zA rk))), (q, .inl (cI, 256, .inl (zA fp)))] := jD
  refine lv_iconst (v := iZ 0) jx jb d_CountsRule_rankByCut_5 rfl ?_
  refine lv_istore_n (lv' := [(2, .int (iZ 0)), (0, .ref h), (1, .ref q)]) jx jb d_CountsRule_rankByCut_6 rfl jl (by decide) rfl (fun ls jl => ?_)
  have hloop7 : ∀ (nF : Nat) (v : Nat) (r2 : Int) (k2 : Nat → Int), 256 - v < nF → (v ≤ 256) → (rkI fp kc v r2 k2) → ∀ (H : Heap) (locs : List Loc), va_P D classes [(h, .inr (2, [.ref u1, .ref u2, .int (iZ r2)])), (u1, .inl (cI, 256, .inl (zA kc))), (u2, .inl (cI, 256, .inl (zA k2))), (q, .inl (cI, 256, .inl (zA fp)))] H → va_D A [(h, .inr (2, [.ref u1, .ref u2, .int (iZ r2)])), (u1, .inl (cI, 256, .inl (zA kc))), (u2, .inl (cI, 256, .inl (zA k2))), (q, .inl (cI, 256, .inl (zA fp)))] → va_S A s.heap H locs → ∀ ls : Array Slot, lv_has ls 4 [(0, .ref h), (1, .ref q), (2, .int (iZ (v : Int)))] → W p l e rm_Rule_rankByCut s m args below meth c H locs 0 0 Q (F0 m 7 ls []) := by
    intro nF
    induction nF with
    | zero => intro v r2 k2 hm; exact absurd hm (Nat.not_lt_zero _)
    | succ nF ih7 =>
      intro v r2 k2 hm hv h1 H locs jP jD jS ls jl
      have hnb := num_b (g := fp) (n := v)
      have hr2 := h1.1
      refine lv_iload_n jx jb d_CountsRule_rankByCut_7 rfl (lv_at jl 2 rfl) ?_
      refine lv_sipush (v := iZ 256) jx jb d_CountsRule_rankByCut_8 (by decide) ?_
      refine z_icmp_ge (tgt := 94) jx jb d_CountsRule_rankByCut_11 (by decide) ⟨⟨by omega, by omega⟩, ⟨by decide, by decide⟩⟩ (fun hc11 => ?_) (fun hc11 => ?_)
      ·
        obtain rfl : 256 = v := by omega
        exact jret _ _ (r2, k2) _ _ (h1) (jP.sub [0, 1, 2, 3] rfl) (jD.sub [0, 1, 2, 3] (by decide) rfl) jS d_CountsRule_rankByCut_94
      ·
        refine lv_aload_n jx jb d_CountsRule_rankByCut_14 rfl (lv_at jl 1 rfl) ?_
        refine lv_iload_n jx jb d_CountsRule_rankByCut_15 rfl (lv_at jl 2 rfl) ?_
        refine z_iald jx jb jK.1 jP 3 0 rfl rfl v (by omega) d_CountsRule_rankByCut_16 ?_
        have hfv := hfp v (by omega)
        refine z_if_le (tgt := 88) jx jb d_CountsRule_rankByCut_17 (by decide) ⟨by omega, by omega⟩ (fun hc17 => ?_) (fun hc17 => ?_)
        ·
          refine lv_iinc (v := iZ ((v : Int) + 1)) (lv' := [(2, .int (iZ ((v : Int) + 1))), (0, .ref h), (1, .ref q)]) jx jb d_CountsRule_rankByCut_88 jl (k := 2) rfl (iZ_add _ _) (by decide) rfl (fun ls jl => ?_)
          refine lv_goto (tgt := 7) jx jb d_CountsRule_rankByCut_91 (by decide) ?_
          exact ih7 (v + 1) r2 k2 (by omega) (by first | assumption | omega) (by first | exact rk_n h1 hc17 | exact rk_s h1 h2 hc17 he) _ _ (jP.sub [0, 1, 2, 3] rfl) (jD.sub [0, 1, 2, 3] (by decide) rfl) jS _ (lv_sub jl [1, 2, 0] rfl)
        ·
          refine lv_aload_n jx jb d_CountsRule_rankByCut_20 rfl (lv_at jl 0 rfl) ?_
          refine va_get (D := D) (ci := 2) (v := .int (iZ r2)) (C := R_CountsRule) (T := F_CountsRule) (N := 3) jx jb jts i_CountsRule jown jK.1 jP 0 rfl rfl 2 (by decide) (jts _ fl_CountsRule_37) (fun _ h9 => h9) rfl d_CountsRule_rankByCut_21 ?_
          refine z_top ((r2.toNat : Nat) : Int) (by omega) ?_
          refine lv_istore_n (lv' := [(3, .int (iZ ((r2.toNat : Nat) : Int))), (0, .ref h), (1, .ref q), (2, .int (iZ (v : Int)))]) jx jb d_CountsRule_rankByCut_24 rfl jl (by decide) rfl (fun ls jl => ?_)
          have hloop25 : ∀ (nF : Nat) (i : Nat) (k3 : Nat → Int), i < nF → (inI kc k2 k3 v i r2) → ∀ (H : Heap) (locs : List Loc), va_P D classes [(h, .inr (2, [.ref u1, .ref u2, .int (iZ r2)])), (u1, .inl (cI, 256, .inl (zA kc))), (u2, .inl (cI, 256, .inl (zA k3))), (q, .inl (cI, 256, .inl (zA fp)))] H → va_D A [(h, .inr (2, [.ref u1, .ref u2, .int (iZ r2)])), (u1, .inl (cI, 256, .inl (zA kc))), (u2, .inl (cI, 256, .inl (zA k3))), (q, .inl (cI, 256, .inl (zA fp)))] → va_S A s.heap H locs → ∀ ls : Array Slot, lv_has ls 4 [(0, .ref h), (1, .ref q), (2, .int (iZ (v : Int))), (3, .int (iZ (i : Int)))] → W p l e rm_Rule_rankByCut s m args below meth c H locs 0 0 Q (F0 m 25 ls []) := by
            intro nF
            induction nF with
            | zero => intro i k3 hm; exact absurd hm (Nat.not_lt_zero _)
            | succ nF ih25 =>
              intro i k3 hm h2 H locs jP jD jS ls jl
              have hi2 : (i : Int) ≤ r2 := h2.1
              refine lv_iload_n jx jb d_CountsRule_rankByCut_25 rfl (lv_at jl 3 rfl) ?_
              refine z_if_le (tgt := 71) jx jb d_CountsRule_rankByCut_26 (by decide) ⟨by omega, by omega⟩ (fun hc26 => ?_) (fun hc26 => ?_)
              ·
                have he : i = 0 ∨ kc v ≤ kc (k3 (i - 1)).toNat := Or.inl (by omega)
                refine lv_aload_n jx jb d_CountsRule_rankByCut_71 rfl (lv_at jl 0 rfl) ?_
                refine va_get (D := D) (ci := 2) (v := .ref u2) (C := R_CountsRule) (T := F_CountsRule) (N := 3) jx jb jts i_CountsRule jown jK.1 jP 0 rfl rfl 1 (by decide) (jts _ fl_CountsRule_15) (fun _ h9 => h9) rfl d_CountsRule_rankByCut_72 ?_
                refine lv_iload_n jx jb d_CountsRule_rankByCut_75 rfl (lv_at jl 3 rfl) ?_
                refine lv_iload_n jx jb d_CountsRule_rankByCut_76 rfl (lv_at jl 2 rfl) ?_
                refine z_iast jx jb jK.1 jP jD jS 2 0 rfl rfl i (by omega) d_CountsRule_rankByCut_77 (fun H locs jP jD jS => ?_)
                have jP : va_P D classes [(h, .inr (2, [.ref u1, .ref u2, .int (iZ r2)])), (u1, .inl (cI, 256, .inl (zA kc))), (u2, .inl (cI, 256, .inl (zA (zu k3 i (v : Int))))), (q, .inl (cI, 256, .inl (zA fp)))] H := jP
                have jD : va_D A [(h, .inr (2, [.ref u1, .ref u2, .int (iZ r2)])), (u1, .inl (cI, 256, .inl (zA kc))), (u2, .inl (cI, 256, .inl (zA (zu k3 i (v : Int))))), (q, .inl (cI, 256, .inl (zA fp)))] := jD
                refine lv_aload_n jx jb d_CountsRule_rankByCut_78 rfl (lv_at jl 0 rfl) ?_
                refine lv_dup jx jb d_CountsRule_rankByCut_79 rfl ?_
                refine va_get (D := D) (ci := 2) (v := .int (iZ r2)) (C := R_CountsRule) (T := F_CountsRule) (N := 3) jx jb jts i_CountsRule jown jK.1 jP 0 rfl rfl 2 (by decide) (jts _ fl_CountsRule_37) (fun _ h9 => h9) rfl d_CountsRule_rankByCut_80 ?_
                refine lv_iconst (v := iZ 1) jx jb d_CountsRule_rankByCut_83 rfl ?_
                refine z_iadd jx jb d_CountsRule_rankByCut_84 ?_
                refine va_put (D := D) (ci := 2) (v := .int (iZ (r2 + 1))) (ty := .int) (C := R_CountsRule) (T := F_CountsRule) (N := 3) jx jb jts i_CountsRule t_CountsRule t_CountsRule_ok n_CountsRule jown jK.1 jP jD jS 0 rfl rfl 2 (by decide) (jts _ fl_CountsRule_37) (fun _ h9 => h9) rfl (by decide +kernel) rfl rfl (Nat.le_of_ble_eq_true rfl) d_CountsRule_rankByCut_85 (fun H locs jP jD jS => ?_)
                have jP : va_P D classes [(h, .inr (2, [.ref u1, .ref u2, .int (iZ (r2 + 1))])), (u1, .inl (cI, 256, .inl (zA kc))), (u2, .inl (cI, 256, .inl (zA (zu k3 i (v : Int))))), (q, .inl (cI, 256, .inl (zA fp)))] H := jP
                have jD : va_D A [(h, .inr (2, [.ref u1, .ref u2, .int (iZ (r2 + 1))])), (u1, .inl (cI, 256, .inl (zA kc))), (u2, .inl (cI, 256, .inl (zA (zu k3 i (v : Int))))), (q, .inl (cI, 256, .inl (zA fp)))] := jD
                refine lv_iinc (v := iZ ((v : Int) + 1)) (lv' := [(2, .int (iZ ((v : Int) + 1))), (0, .ref h), (1, .ref q), (3, .int (iZ (i : Int)))]) jx jb d_CountsRule_rankByCut_88 jl (k := 2) rfl (iZ_add _ _) (by decide) rfl (fun ls jl => ?_)
                refine lv_goto (tgt := 7) jx jb d_CountsRule_rankByCut_91 (by decide) ?_
                exact ih7 (v + 1) (r2 + 1) (zu k3 i (v : Int)) (by omega) (by first | assumption | omega) (by first | exact rk_n h1 hc17 | exact rk_s h1 h2 hc17 he) _ _ (jP.sub [0, 1, 2, 3] rfl) (jD.sub [0, 1, 2, 3] (by decide) rfl) jS _ (lv_sub jl [1, 2, 0] rfl)
              ·
                obtain ⟨t9, ht9, htv, htg, _⟩ := h1.2 (i - 1) (by omega)
                have hk9 : k3 (i - 1) = (t9 : Int) := (h2.2.1 (i - 1) (by omega)).trans ht9
                have hkt := hkc t9 (by omega) htg
                have hkv := hkc v (by omega) hc17
                refine lv_aload_n jx jb d_CountsRule_rankByCut_29 rfl (lv_at jl 0 rfl) ?_
                refine va_get (D := D) (ci := 2) (v := .ref u1) (C := R_CountsRule) (T := F_CountsRule) (N := 3) jx jb jts i_CountsRule jown jK.1 jP 0 rfl rfl 0 (by decide) (jts _ fl_CountsRule_9) (fun _ h9 => h9) rfl d_CountsRule_rankByCut_30 ?_
                refine lv_aload_n jx jb d_CountsRule_rankByCut_33 rfl (lv_at jl 0 rfl) ?_
                refine va_get (D := D) (ci := 2) (v := .ref u2) (C := R_CountsRule) (T := F_CountsRule) (N := 3) jx jb jts i_CountsRule jown jK.1 jP 0 rfl rfl 1 (by decide) (jts _ fl_CountsRule_15) (fun _ h9 => h9) rfl d_CountsRule_rankByCut_34 ?_
                refine lv_iload_n jx jb d_CountsRule_rankByCut_37 rfl (lv_at jl 3 rfl) ?_
                refine lv_iconst (v := iZ 1) jx jb d_CountsRule_rankByCut_38 rfl ?_
                refine z_isub jx jb d_CountsRule_rankByCut_39 ?_
                refine z_top ((i - 1 : Nat) : Int) (by omega) ?_
                refine z_iald jx jb jK.1 jP 2 0 rfl rfl (i - 1 : Nat) (by omega) d_CountsRule_rankByCut_40 ?_
                refine z_top (t9 : Int) (hk9) ?_
                refine z_iald jx jb jK.1 jP 1 0 rfl rfl t9 (by omega) d_CountsRule_rankByCut_41 ?_
                refine lv_aload_n jx jb d_CountsRule_rankByCut_42 rfl (lv_at jl 0 rfl) ?_
                refine va_get (D := D) (ci := 2) (v := .ref u1) (C := R_CountsRule) (T := F_CountsRule) (N := 3) jx jb jts i_CountsRule jown jK.1 jP 0 rfl rfl 0 (by decide) (jts _ fl_CountsRule_9) (fun _ h9 => h9) rfl d_CountsRule_rankByCut_43 ?_
                refine lv_iload_n jx jb d_CountsRule_rankByCut_46 rfl (lv_at jl 2 rfl) ?_
                refine z_iald jx jb jK.1 jP 1 0 rfl rfl v (by omega) d_CountsRule_rankByCut_47 ?_
                refine z_icmp_ge (tgt := 71) jx jb d_CountsRule_rankByCut_48 (by decide) ⟨⟨by omega, by omega⟩, ⟨by omega, by omega⟩⟩ (fun hc48 => ?_) (fun hc48 => ?_)
                ·
                  have he : i = 0 ∨ kc v ≤ kc (k3 (i - 1)).toNat := Or.inr (by rw [hk9]; exact hc48)
                  refine lv_aload_n jx jb d_CountsRule_rankByCut_71 rfl (lv_at jl 0 rfl) ?_
                  refine va_get (D := D) (ci := 2) (v := .ref u2) (C := R_CountsRule) (T := F_CountsRule) (N := 3) jx jb jts i_CountsRule jown jK.1 jP 0 rfl rfl 1 (by decide) (jts _ fl_CountsRule_15) (fun _ h9 => h9) rfl d_CountsRule_rankByCut_72 ?_
                  refine lv_iload_n jx jb d_CountsRule_rankByCut_75 rfl (lv_at jl 3 rfl) ?_
                  refine lv_iload_n jx jb d_CountsRule_rankByCut_76 rfl (lv_at jl 2 rfl) ?_
                  refine z_iast jx jb jK.1 jP jD jS 2 0 rfl rfl i (by omega) d_CountsRule_rankByCut_77 (fun H locs jP jD jS => ?_)
                  have jP : va_P D classes [(h, .inr (2, [.ref u1, .ref u2, .int (iZ r2)])), (u1, .inl (cI, 256, .inl (zA kc))), (u2, .inl (cI, 256, .inl (zA (zu k3 i (v : Int))))), (q, .inl (cI, 256, .inl (zA fp)))] H := jP
                  have jD : va_D A [(h, .inr (2, [.ref u1, .ref u2, .int (iZ r2)])), (u1, .inl (cI, 256, .inl (zA kc))), (u2, .inl (cI, 256, .inl (zA (zu k3 i (v : Int))))), (q, .inl (cI, 256, .inl (zA fp)))] := jD
                  refine lv_aload_n jx jb d_CountsRule_rankByCut_78 rfl (lv_at jl 0 rfl) ?_
                  refine lv_dup jx jb d_CountsRule_rankByCut_79 rfl ?_
                  refine va_get (D := D) (ci := 2) (v := .int (iZ r2)) (C := R_CountsRule) (T := F_CountsRule) (N := 3) jx jb jts i_CountsRule jown jK.1 jP 0 rfl rfl 2 (by decide) (jts _ fl_CountsRule_37) (fun _ h9 => h9) rfl d_CountsRule_rankByCut_80 ?_
                  refine lv_iconst (v := iZ 1) jx jb d_CountsRule_rankByCut_83 rfl ?_
                  refine z_iadd jx jb d_CountsRule_rankByCut_84 ?_
                  refine va_put (D := D) (ci := 2) (v := .int (iZ (r2 + 1))) (ty := .int) (C := R_CountsRule) (T := F_CountsRule) (N := 3) jx jb jts i_CountsRule t_CountsRule t_CountsRule_ok n_CountsRule jown jK.1 jP jD jS 0 rfl rfl 2 (by decide) (jts _ fl_CountsRule_37) (fun _ h9 => h9) rfl (by decide +kernel) rfl rfl (Nat.le_of_ble_eq_true rfl) d_CountsRule_rankByCut_85 (fun H locs jP jD jS => ?_)
                  have jP : va_P D classes [(h, .inr (2, [.ref u1, .ref u2, .int (iZ (r2 + 1))])), (u1, .inl (cI, 256, .inl (zA kc))), (u2, .inl (cI, 256, .inl (zA (zu k3 i (v : Int))))), (q, .inl (cI, 256, .inl (zA fp)))] H := jP
                  have jD : va_D A [(h, .inr (2, [.ref u1, .ref u2, .int (iZ (r2 + 1))])), (u1, .inl (cI, 256, .inl (zA kc))), (u2, .inl (cI, 256, .inl (zA (zu k3 i (v : Int))))), (q, .inl (cI, 256, .inl (zA fp)))] := jD
                  refine lv_iinc (v := iZ ((v : Int) + 1)) (lv' := [(2, .int (iZ ((v : Int) + 1))), (0, .ref h), (1, .ref q), (3, .int (iZ (i : Int)))]) jx jb d_CountsRule_rankByCut_88 jl (k := 2) rfl (iZ_add _ _) (by decide) rfl (fun ls jl => ?_)
                  refine lv_goto (tgt := 7) jx jb d_CountsRule_rankByCut_91 (by decide) ?_
                  exact ih7 (v + 1) (r2 + 1) (zu k3 i (v : Int)) (by omega) (by first | assumption | omega) (by first | exact rk_n h1 hc17 | exact rk_s h1 h2 hc17 he) _ _ (jP.sub [0, 1, 2, 3] rfl) (jD.sub [0, 1, 2, 3] (by decide) rfl) jS _ (lv_sub jl [1, 2, 0] rfl)
                ·
                  refine lv_aload_n jx jb d_CountsRule_rankByCut_51 rfl (lv_at jl 0 rfl) ?_
                  refine va_get (D := D) (ci := 2) (v := .ref u2) (C := R_CountsRule) (T := F_CountsRule) (N := 3) jx jb jts i_CountsRule jown jK.1 jP 0 rfl rfl 1 (by decide) (jts _ fl_CountsRule_15) (fun _ h9 => h9) rfl d_CountsRule_rankByCut_52 ?_
                  refine lv_iload_n jx jb d_CountsRule_rankByCut_55 rfl (lv_at jl 3 rfl) ?_
                  refine lv_aload_n jx jb d_CountsRule_rankByCut_56 rfl (lv_at jl 0 rfl) ?_
                  refine va_get (D := D) (ci := 2) (v := .ref u2) (C := R_CountsRule) (T := F_CountsRule) (N := 3) jx jb jts i_CountsRule jown jK.1 jP 0 rfl rfl 1 (by decide) (jts _ fl_CountsRule_15) (fun _ h9 => h9) rfl d_CountsRule_rankByCut_57 ?_
                  refine lv_iload_n jx jb d_CountsRule_rankByCut_60 rfl (lv_at jl 3 rfl) ?_
                  refine lv_iconst (v := iZ 1) jx jb d_CountsRule_rankByCut_61 rfl ?_
                  refine z_isub jx jb d_CountsRule_rankByCut_62 ?_
                  refine z_top ((i - 1 : Nat) : Int) (by omega) ?_
                  refine z_iald jx jb jK.1 jP 2 0 rfl rfl (i - 1 : Nat) (by omega) d_CountsRule_rankByCut_63 ?_
                  refine z_iast jx jb jK.1 jP jD jS 2 0 rfl rfl i (by omega) d_CountsRule_rankByCut_64 (fun H locs jP jD jS => ?_)
                  have jP : va_P D classes [(h, .inr (2, [.ref u1, .ref u2, .int (iZ r2)])), (u1, .inl (cI, 256, .inl (zA kc))), (u2, .inl (cI, 256, .inl (zA (zu k3 i (k3 (i - 1 : Nat)))))), (q, .inl (cI, 256, .inl (zA fp)))] H := jP
                  have jD : va_D A [(h, .inr (2, [.ref u1, .ref u2, .int (iZ r2)])), (u1, .inl (cI, 256, .inl (zA kc))), (u2, .inl (cI, 256, .inl (zA (zu k3 i (k3 (i - 1 : Nat)))))), (q, .inl (cI, 256, .inl (zA fp)))] := jD
                  refine lv_iinc (v := iZ ((i - 1 : Nat) : Int)) (lv' := [(3, .int (iZ ((i - 1 : Nat) : Int))), (0, .ref h), (1, .ref q), (2, .int (iZ (v : Int)))]) jx jb d_CountsRule_rankByCut_65 jl (k := 3) rfl (by rw [show ((i - 1 : Nat) : Int) = (i : Int) + (-1) from by omega]; exact iZ_add _ _) (by decide) rfl (fun ls jl => ?_)
                  refine lv_goto (tgt := 25) jx jb d_CountsRule_rankByCut_68 (by decide) ?_
                  exact ih25 (i - 1) (zu k3 i (k3 (i - 1 : Nat))) (by omega) (in_s h2 (by omega) (by rw [hk9]; exact hc48)) _ _ (jP.sub [0, 1, 2, 3] rfl) (jD.sub [0, 1, 2, 3] (by decide) rfl) jS _ (lv_sub jl [1, 2, 3, 0] rfl)
          exact hloop25 (r2.toNat + 1) r2.toNat k2 (Nat.lt_succ_self _) (in_0 (by omega)) _ _ (jP.sub [0, 1, 2, 3] rfl) (jD.sub [0, 1, 2, 3] (by decide) rfl) jS _ (lv_sub jl [1, 2, 3, 0] rfl)
  exact hloop7 ((256 - 0) + 1) 0 0 rk (Nat.lt_succ_self _) (by first | assumption | omega) (rk_0) _ _ (jP.sub [0, 1, 2, 3] rfl) (jD.sub [0, 1, 2, 3] (by decide) rfl) jS _ (lv_sub jl [1, 2, 0] rfl)
abbrev rm_Rule_giveMissing : Room := { frames := 0, cells := 0, slots := 0, locals := 0 }
set_option maxHeartbeats 4000000 in
set_option maxRecDepth 100000 in
theorem c_Rule_giveMissing (l : Launch) (D : va_G) (cI cB cZ : ClassId) (sz : Nat) (h : Nat) (u1 : Nat) (u2 : Nat) (rl : Int) (q : Nat) (kc : Nat → Int) (rk : Nat → Int) (fp : Nat → Int) (x : Int) (h0 : rkI fp kc 256 rl rk) (hfp : ∀ k, k < 256 → -1 ≤ fp k ∧ fp k ≤ 4096) (hx1 : -100000 ≤ x ∧ x ≤ 60000) (hx2 : x ≤ 0 ∨ x < rl) : Met l y_CountsRule_giveMissing (.code y_CountsRule_giveMissing b_CountsRule_giveMissing 5 none :: zT) rm_Rule_giveMissing (zPc D classes (TY cI cB cZ) [(h, .inr (2, [.ref u1, .ref u2, .int (iZ rl)])), (u2, .inl (cI, 256, .inl (zA rk))), (q, .inl (cI, 256, .inl (zA fp)))] sz [.ref h, .ref q, .int (iZ x)]) (zFv (S := Nat → Int) D classes (fun u => (∀ k, k < 256 → u k = gv fp kc x k) ∧ cum u 256 = cum fp 256 + (x.toNat : Int)) (fun u => [(h, .inr (2, [.ref u1, .ref u2, .int (iZ rl)])), (u2, .inl (cI, 256, .inl (zA rk))), (q, .inl (cI, 256, .inl (zA u)))]) (va_A [(h, .inr (2, [.ref u1, .ref u2, .int (iZ rl)])), (u2, .inl (cI, 256, .inl (zA rk))), (q, .inl (cI, 256, .inl (zA fp)))] sz)) 0 0 (va_A [(h, .inr (2, [.ref u1, .ref u2, .int (iZ rl)])), (u2, .inl (cI, 256, .inl (zA rk))), (q, .inl (cI, 256, .inl (zA fp)))] sz) := by
  refine z_ofv (by decide) (Nat.le_of_ble_eq_true rfl) rfl ?_
  intro p e s m args below meth c A Q E jmn jA jK jret H locs jP jD jS ls jl
  obtain ⟨jx, jb, jrt, jml, jown, jts, jlk⟩ := E
  have jown : s.vm.findClass R_CountsRule = some m.cls := jown
  have hnb := num_b (g := fp) (n := 256)
  have hrl := h0.1
  have jl : lv_has ls 5 [(0, .ref h), (1, .ref q), (2, .int (iZ x))] := jl
  refine lv_iconst (v := iZ 0) jx jb d_CountsRule_giveMissing_0 rfl ?_
  refine lv_istore_n (lv' := [(3, .int (iZ 0)), (0, .ref h), (1, .ref q), (2, .int (iZ x))]) jx jb d_CountsRule_giveMissing_1 rfl jl (by decide) rfl (fun ls jl => ?_)
  refine lv_iconst (v := iZ 0) jx jb d_CountsRule_giveMissing_2 rfl ?_
  refine lv_istore (lv' := [(4, .int (iZ 0)), (3, .int (iZ 0)), (0, .ref h), (1, .ref q), (2, .int (iZ x))]) jx jb d_CountsRule_giveMissing_3 jl (by decide) rfl (fun ls jl => ?_)
  have hloop5 : ∀ (nF : Nat) (k : Nat) (d2 : Nat → Int), x.toNat - k < nF → (k ≤ x.toNat) → (∀ u, u < 256 → d2 u = gv fp kc (k : Int) u) → (cum d2 256 = cum fp 256 + (k : Int)) → ∀ (H : Heap) (locs : List Loc), va_P D classes [(h, .inr (2, [.ref u1, .ref u2, .int (iZ rl)])), (u2, .inl (cI, 256, .inl (zA rk))), (q, .inl (cI, 256, .inl (zA d2)))] H → va_D A [(h, .inr (2, [.ref u1, .ref u2, .int (iZ rl)])), (u2, .inl (cI, 256, .inl (zA rk))), (q, .inl (cI, 256, .inl (zA d2)))] → va_S A s.heap H locs → ∀ ls : Array Slot, lv_has ls 5 [(0, .ref h), (1, .ref q), (2, .int (iZ x)), (3, .int (iZ (k : Int))), (4, .int (iZ (k : Int)))] → W p l e rm_Rule_giveMissing s m args below meth c H locs 0 0 Q (F0 m 5 ls []) := by
    intro nF
    induction nF with
    | zero => intro k d2 hm; exact absurd hm (Nat.not_lt_zero _)
    | succ nF ih5 =>
      intro k d2 hm hk h1 h2 H locs jP jD jS ls jl
      refine lv_iload jx jb d_CountsRule_giveMissing_5 (lv_at jl 4 rfl) ?_
      refine lv_iload_n jx jb d_CountsRule_giveMissing_7 rfl (lv_at jl 2 rfl) ?_
      refine z_icmp_ge (tgt := 54) jx jb d_CountsRule_giveMissing_8 (by decide) ⟨⟨by omega, by omega⟩, ⟨by omega, by omega⟩⟩ (fun hc8 => ?_) (fun hc8 => ?_)
      ·
        exact jret _ _ (d2) _ _ (⟨fun u hu => (h1 u hu).trans (gv_end hk hc8), by omega⟩) (jP.sub [0, 1, 2] rfl) (jD.sub [0, 1, 2] (by decide) rfl) jS d_CountsRule_giveMissing_54
      ·
        refine lv_aload_n jx jb d_CountsRule_giveMissing_11 rfl (lv_at jl 0 rfl) ?_
        refine va_get (D := D) (ci := 2) (v := .int (iZ rl)) (C := R_CountsRule) (T := F_CountsRule) (N := 3) jx jb jts i_CountsRule jown jK.1 jP 0 rfl rfl 2 (by decide) (jts _ fl_CountsRule_37) (fun _ h9 => h9) rfl d_CountsRule_giveMissing_12 ?_
        refine z_if_le (tgt := 54) jx jb d_CountsRule_giveMissing_15 (by decide) ⟨by omega, by omega⟩ (fun hc15 => ?_) (fun hc15 => ?_)
        ·
          exfalso; omega
        ·
          obtain ⟨t9, ht9, htv, htg, htb⟩ := h0.2 k (by omega)
          have hd9 := h1 t9 htv
          have hg9 := gv_pos (ct := kc) (m := (k : Int)) htg
          have hf9 := hfp t9 htv
          refine lv_aload_n jx jb d_CountsRule_giveMissing_18 rfl (lv_at jl 1 rfl) ?_
          refine lv_aload_n jx jb d_CountsRule_giveMissing_19 rfl (lv_at jl 0 rfl) ?_
          refine va_get (D := D) (ci := 2) (v := .ref u2) (C := R_CountsRule) (T := F_CountsRule) (N := 3) jx jb jts i_CountsRule jown jK.1 jP 0 rfl rfl 1 (by decide) (jts _ fl_CountsRule_15) (fun _ h9 => h9) rfl d_CountsRule_giveMissing_20 ?_
          refine lv_iload_n jx jb d_CountsRule_giveMissing_23 rfl (lv_at jl 3 rfl) ?_
          refine z_iald jx jb jK.1 jP 1 0 rfl rfl k (by omega) d_CountsRule_giveMissing_24 ?_
          refine z_top (t9 : Int) (ht9) ?_
          refine lv_dup2_11 jx jb d_CountsRule_giveMissing_25 rfl rfl ?_
          refine z_iald jx jb jK.1 jP 2 0 rfl rfl t9 (by omega) d_CountsRule_giveMissing_26 ?_
          refine lv_iconst (v := iZ 1) jx jb d_CountsRule_giveMissing_27 rfl ?_
          refine z_iadd jx jb d_CountsRule_giveMissing_28 ?_
          refine z_iast jx jb jK.1 jP jD jS 2 0 rfl rfl t9 (by omega) d_CountsRule_giveMissing_29 (fun H locs jP jD jS => ?_)
          have jP : va_P D classes [(h, .inr (2, [.ref u1, .ref u2, .int (iZ rl)])), (u2, .inl (cI, 256, .inl (zA rk))), (q, .inl (cI, 256, .inl (zA (zu d2 t9 ((d2 t9) + 1)))))] H := jP
          have jD : va_D A [(h, .inr (2, [.ref u1, .ref u2, .int (iZ rl)])), (u2, .inl (cI, 256, .inl (zA rk))), (q, .inl (cI, 256, .inl (zA (zu d2 t9 ((d2 t9) + 1)))))] := jD
          refine lv_iload_n jx jb d_CountsRule_giveMissing_30 rfl (lv_at jl 3 rfl) ?_
          refine lv_iconst (v := iZ 1) jx jb d_CountsRule_giveMissing_31 rfl ?_
          refine z_iadd jx jb d_CountsRule_giveMissing_32 ?_
          refine lv_aload_n jx jb d_CountsRule_giveMissing_33 rfl (lv_at jl 0 rfl) ?_
          refine va_get (D := D) (ci := 2) (v := .int (iZ rl)) (C := R_CountsRule) (T := F_CountsRule) (N := 3) jx jb jts i_CountsRule jown jK.1 jP 0 rfl rfl 2 (by decide) (jts _ fl_CountsRule_37) (fun _ h9 => h9) rfl d_CountsRule_giveMissing_34 ?_
          refine z_icmp_ge (tgt := 46) jx jb d_CountsRule_giveMissing_37 (by decide) ⟨⟨by omega, by omega⟩, ⟨by omega, by omega⟩⟩ (fun hc37 => ?_) (fun hc37 => ?_)
          ·
            exfalso; omega
          ·
            refine lv_iload_n jx jb d_CountsRule_giveMissing_40 rfl (lv_at jl 3 rfl) ?_
            refine lv_iconst (v := iZ 1) jx jb d_CountsRule_giveMissing_41 rfl ?_
            refine z_iadd jx jb d_CountsRule_giveMissing_42 ?_
            refine lv_goto (tgt := 47) jx jb d_CountsRule_giveMissing_43 (by decide) ?_
            refine lv_istore_n (lv' := [(3, .int (iZ ((k : Int) + 1))), (0, .ref h), (1, .ref q), (2, .int (iZ x)), (4, .int (iZ (k : Int)))]) jx jb d_CountsRule_giveMissing_47 rfl jl (by decide) rfl (fun ls jl => ?_)
            refine lv_iinc (v := iZ ((k : Int) + 1)) (lv' := [(4, .int (iZ ((k : Int) + 1))), (3, .int (iZ ((k : Int) + 1))), (0, .ref h), (1, .ref q), (2, .int (iZ x))]) jx jb d_CountsRule_giveMissing_48 jl (k := 4) rfl (iZ_add _ _) (by decide) rfl (fun ls jl => ?_)
            refine lv_goto (tgt := 5) jx jb d_CountsRule_giveMissing_51 (by decide) ?_
            exact ih5 (k + 1) (zu d2 t9 ((d2 t9) + 1)) (by omega) (by first | assumption | omega) (gv_s htv htg htb h1) (by rw [cum_inc htv (by omega)]; omega) _ _ (jP.sub [0, 1, 2] rfl) (jD.sub [0, 1, 2] (by decide) rfl) jS _ (lv_sub jl [2, 3, 4, 1, 0] rfl)
  exact hloop5 ((x.toNat - 0) + 1) 0 fp (Nat.lt_succ_self _) (by first | assumption | omega) (fun u hu => (gv_0 (by omega)).symm) (by first | assumption | omega) _ _ (jP.sub [0, 1, 2] rfl) (jD.sub [0, 1, 2] (by decide) rfl) jS _ (lv_sub jl [2, 3, 4, 1, 0] rfl)
abbrev rm_Rule_makePoints : Room := { frames := 1, cells := 0, slots := 0, locals := 25 }
set_option maxHeartbeats 4000000 in
set_option maxRecDepth 100000 in
theorem c_Rule_makePoints (l : Launch) (D : va_G) (cI cB cZ : ClassId) (sz : Nat) (h : Nat) (u1 : Nat) (u2 : Nat) (rl : Int) (qc : Nat) (q : Nat) (o : Nat) (kc : Nat → Int) (rk : Nat → Int) (fc : Nat → Int) (fp : Nat → Int) (hcr : ∀ k, k < 256 → 0 ≤ fc k ∧ fc k ≤ 65535) (ho : 5 ≤ o ∧ o ≤ 12) : Met l y_CountsRule_makePoints (.code y_CountsRule_makePoints b_CountsRule_makePoints 8 (some .boolean) :: zT) rm_Rule_makePoints (zPc D classes (TY cI cB cZ) [(h, .inr (2, [.ref u1, .ref u2, .int (iZ rl)])), (u1, .inl (cI, 256, .inl (zA kc))), (u2, .inl (cI, 256, .inl (zA rk))), (qc, .inl (cI, 256, .inl (zA fc))), (q, .inl (cI, 256, .inl (zA fp)))] sz [.ref h, .ref qc, .int (iZ (o : Int)), .ref q]) (zFi (S := Int × (Nat → Int) × (Nat → Int) × (Nat → Int)) D classes (fun z u => (z = 1 ∧ (0 < sm fc 256 ∧ usd fc 256 ≤ 2 ^ o) ∧ (∀ k, k < 256 → u.2.2.2 k = shP fc (2 ^ o) (sm fc 256) k) ∧ cum u.2.2.2 256 = 2 ^ o ∧ ∀ k, k < 256 → -1 ≤ u.2.2.2 k ∧ u.2.2.2 k ≤ 65536) ∨ (z = 0 ∧ ¬ (0 < sm fc 256 ∧ usd fc 256 ≤ 2 ^ o))) (fun u => [(h, .inr (2, [.ref u1, .ref u2, .int (iZ u.1)])), (u1, .inl (cI, 256, .inl (zA u.2.1))), (u2, .inl (cI, 256, .inl (zA u.2.2.1))), (qc, .inl (cI, 256, .inl (zA fc))), (q, .inl (cI, 256, .inl (zA u.2.2.2)))]) (va_A [(h, .inr (2, [.ref u1, .ref u2, .int (iZ rl)])), (u1, .inl (cI, 256, .inl (zA kc))), (u2, .inl (cI, 256, .inl (zA rk))), (qc, .inl (cI, 256, .inl (zA fc))), (q, .inl (cI, 256, .inl (zA fp)))] sz)) 0 0 (va_A [(h, .inr (2, [.ref u1, .ref u2, .int (iZ rl)])), (u1, .inl (cI, 256, .inl (zA kc))), (u2, .inl (cI, 256, .inl (zA rk))), (qc, .inl (cI, 256, .inl (zA fc))), (q, .inl (cI, 256, .inl (zA fp)))] sz) := by
  refine z_ofi (by decide) (Nat.le_of_ble_eq_true rfl) (Or.inr rfl) ?_
  intro p e s m args below meth c A Q E jA jK jret H locs jP jD jS ls jl
  obtain ⟨jx, jb, jrt, jml, jown, jts, jlk⟩ := E
  have jown : s.vm.findClass R_CountsRule = some m.cls := jown
  have hp12 := p2_le ho.2
  have hp0 := p2_pos o
  have hp40 : (2 : Int) ^ 12 = 4096 := rfl
  have jl : lv_has ls 8 [(0, .ref h), (1, .ref qc), (2, .int (iZ (o : Int))), (3, .ref q)] := jl
  refine lv_iconst (v := iZ 0) jx jb d_CountsRule_makePoints_0 rfl ?_
  refine lv_istore (lv' := [(4, .int (iZ 0)), (0, .ref h), (1, .ref qc), (2, .int (iZ (o : Int))), (3, .ref q)]) jx jb d_CountsRule_makePoints_1 jl (by decide) rfl (fun ls jl => ?_)
  refine lv_iconst (v := iZ 0) jx jb d_CountsRule_makePoints_3 rfl ?_
  refine lv_istore (lv' := [(5, .int (iZ 0)), (4, .int (iZ 0)), (0, .ref h), (1, .ref qc), (2, .int (iZ (o : Int))), (3, .ref q)]) jx jb d_CountsRule_makePoints_4 jl (by decide) rfl (fun ls jl => ?_)
  refine lv_iconst (v := iZ 0) jx jb d_CountsRule_makePoints_6 rfl ?_
  refine lv_istore (lv' := [(6, .int (iZ 0)), (5, .int (iZ 0)), (4, .int (iZ 0)), (0, .ref h), (1, .ref qc), (2, .int (iZ (o : Int))), (3, .ref q)]) jx jb d_CountsRule_makePoints_7 jl (by decide) rfl (fun ls jl => ?_)
  have hloop9 : ∀ (nF : Nat) (i : Nat), 256 - i < nF → (i ≤ 256) → ∀ (H : Heap) (locs : List Loc), va_P D classes [(h, .inr (2, [.ref u1, .ref u2, .int (iZ rl)])), (u1, .inl (cI, 256, .inl (zA kc))), (u2, .inl (cI, 256, .inl (zA rk))), (qc, .inl (cI, 256, .inl (zA fc))), (q, .inl (cI, 256, .inl (zA fp)))] H → va_D A [(h, .inr (2, [.ref u1, .ref u2, .int (iZ rl)])), (u1, .inl (cI, 256, .inl (zA kc))), (u2, .inl (cI, 256, .inl (zA rk))), (qc, .inl (cI, 256, .inl (zA fc))), (q, .inl (cI, 256, .inl (zA fp)))] → va_S A s.heap H locs → ∀ ls : Array Slot, lv_has ls 8 [(0, .ref h), (1, .ref qc), (2, .int (iZ (o : Int))), (3, .ref q), (4, .int (iZ (sm fc i))), (5, .int (iZ (usd fc i))), (6, .int (iZ (i : Int)))] → W p l e rm_Rule_makePoints s m args below meth c H locs 0 0 Q (F0 m 9 ls []) := by
    intro nF
    induction nF with
    | zero => intro i hm; exact absurd hm (Nat.not_lt_zero _)
    | succ nF ih9 =>
      intro i hm hi H locs jP jD jS ls jl
      refine lv_iload jx jb d_CountsRule_makePoints_9 (lv_at jl 6 rfl) ?_
      refine lv_sipush (v := iZ 256) jx jb d_CountsRule_makePoints_11 (by decide) ?_
      refine z_icmp_ge (tgt := 49) jx jb d_CountsRule_makePoints_14 (by decide) ⟨⟨by omega, by omega⟩, ⟨by decide, by decide⟩⟩ (fun hc14 => ?_) (fun hc14 => ?_)
      ·
        obtain rfl : 256 = i := by omega
        have hsb := sm_hi (c := fc) (n := 256) hcr
        have hub := usd_b (c := fc) (n := 256)
        refine lv_iload jx jb d_CountsRule_makePoints_49 (lv_at jl 4 rfl) ?_
        refine z_if_le (tgt := 62) jx jb d_CountsRule_makePoints_51 (by decide) ⟨by omega, by omega⟩ (fun hc51 => ?_) (fun hc51 => ?_)
        ·
          refine lv_iconst (v := iZ 0) jx jb d_CountsRule_makePoints_62 rfl ?_
          exact jret _ _ _ (rl, kc, rk, fp) _ _ (Or.inr (Or.inl rfl)) (by first | exact Or.inr ⟨rfl, fun q => absurd q.1 (by omega)⟩ | exact Or.inr ⟨rfl, fun q => absurd q.2 (by omega)⟩) (jP.sub [0, 1, 2, 3, 4] rfl) (jD.sub [0, 1, 2, 3, 4] (by decide) rfl) jS d_CountsRule_makePoints_63
        ·
          refine lv_iload jx jb d_CountsRule_makePoints_54 (lv_at jl 5 rfl) ?_
          refine lv_iconst (v := iZ 1) jx jb d_CountsRule_makePoints_56 rfl ?_
          refine lv_iload_n jx jb d_CountsRule_makePoints_57 rfl (lv_at jl 2 rfl) ?_
          refine z_ishl jx jb d_CountsRule_makePoints_58 o (2 ^ o) (rfl) (by omega) ?_
          refine z_top (2 ^ o) (Int.one_mul _) ?_
          refine z_icmp_le (tgt := 64) jx jb d_CountsRule_makePoints_59 (by decide) ⟨⟨by omega, by omega⟩, ⟨by omega, by omega⟩⟩ (fun hc59 => ?_) (fun hc59 => ?_)
          ·
            have hso : sumOK fc (2 ^ o) (sm fc 256) := ⟨hp0, by omega, hc51, rfl, hcr⟩
            have hfm := fp_mis hso
            have hcb : 0 ≤ cum (fpF fc (2 ^ o) (sm fc 256)) 256 ∧ cum (fpF fc (2 ^ o) (sm fc 256)) 256 ≤ 65536 * ((256 : Nat) : Int) := cum_hi (n := 256) (fun k hk => by have q := fp_b hso hk; omega)
            refine lv_iconst (v := iZ 0) jx jb d_CountsRule_makePoints_64 rfl ?_
            refine lv_istore (lv' := [(6, .int (iZ 0)), (0, .ref h), (1, .ref qc), (2, .int (iZ (o : Int))), (3, .ref q), (4, .int (iZ (sm fc 256))), (5, .int (iZ (usd fc 256)))]) jx jb d_CountsRule_makePoints_65 jl (by decide) rfl (fun ls jl => ?_)
            refine lv_iconst (v := iZ 0) jx jb d_CountsRule_makePoints_67 rfl ?_
            refine lv_istore (lv' := [(7, .int (iZ 0)), (6, .int (iZ 0)), (0, .ref h), (1, .ref qc), (2, .int (iZ (o : Int))), (3, .ref q), (4, .int (iZ (sm fc 256))), (5, .int (iZ (usd fc 256)))]) jx jb d_CountsRule_makePoints_68 jl (by decide) rfl (fun ls jl => ?_)
            have hloop70 : ∀ (nF : Nat) (j : Nat) (k2 : Nat → Int) (f2 : Nat → Int), 256 - j < nF → (j ≤ 256) → (∀ k, k < j → f2 k = (fpF fc (2 ^ o) (sm fc 256)) k) → (∀ k, k < j → 0 < (fpF fc (2 ^ o) (sm fc 256)) k → k2 k = ctF fc (2 ^ o) (sm fc 256) k) → ∀ (H : Heap) (locs : List Loc), va_P D classes [(h, .inr (2, [.ref u1, .ref u2, .int (iZ rl)])), (u1, .inl (cI, 256, .inl (zA k2))), (u2, .inl (cI, 256, .inl (zA rk))), (qc, .inl (cI, 256, .inl (zA fc))), (q, .inl (cI, 256, .inl (zA f2)))] H → va_D A [(h, .inr (2, [.ref u1, .ref u2, .int (iZ rl)])), (u1, .inl (cI, 256, .inl (zA k2))), (u2, .inl (cI, 256, .inl (zA rk))), (qc, .inl (cI, 256, .inl (zA fc))), (q, .inl (cI, 256, .inl (zA f2)))] → va_S A s.heap H locs → ∀ ls : Array Slot, lv_has ls 8 [(0, .ref h), (1, .ref qc), (2, .int (iZ (o : Int))), (3, .ref q), (4, .int (iZ (sm fc 256))), (6, .int (iZ (cum (fpF fc (2 ^ o) (sm fc 256)) j))), (7, .int (iZ (j : Int)))] → W p l e rm_Rule_makePoints s m args below meth c H locs 0 0 Q (F0 m 70 ls []) := by
              intro nF
              induction nF with
              | zero => intro j k2 f2 hm; exact absurd hm (Nat.not_lt_zero _)
              | succ nF ih70 =>
                intro j k2 f2 hm hj h1 h2 H locs jP jD jS ls jl
                refine lv_iload jx jb d_CountsRule_makePoints_70 (lv_at jl 6 rfl) ?_
                refine lv_sipush (v := iZ 256) jx jb d_CountsRule_makePoints_72 (by decide) ?_
                refine z_icmp_ge (tgt := 114) jx jb d_CountsRule_makePoints_75 (by decide) ⟨⟨by omega, by omega⟩, ⟨by decide, by decide⟩⟩ (fun hc75 => ?_) (fun hc75 => ?_)
                ·
                  obtain rfl : 256 = j := by omega
                  refine lv_aload_n jx jb d_CountsRule_makePoints_114 rfl (lv_at jl 0 rfl) ?_
                  refine lv_aload_n jx jb d_CountsRule_makePoints_115 rfl (lv_at jl 3 rfl) ?_
                  have hfp2 : ∀ k, k < 256 → -1 ≤ f2 k ∧ f2 k ≤ 4096 := fun k hk => by rw [h1 k hk]; have q := fp_b hso hk; omega
                  refine z_backv (wr := [(qc, .inl (cI, 256, .inl (zA fc)))]) jP jD jS jA [0, 1, 2, 4] [3] rfl rfl (by decide) (by decide) (va_runV (As := [.ref q]) (rest := []) ⟨jx, jb, jml, jown, jts⟩ (c_Rule_rankByCut l D cI cB cZ H.size h u1 u2 rl q k2 rk f2 (hfp2) (fun k hk hp => by rw [h1 k hk] at hp; rw [h2 k hk hp]; exact ct_b hso)) (zc_V 1 jts cd_CountsRule_rankByCut lk_CountsRule_26 im_CountsRule_rankByCut se_CountsRule_rankByCut in_CountsRule hd_CountsRule_rankByCut ⟨Nat.le_of_ble_eq_true rfl, Nat.le_of_ble_eq_true rfl⟩ rfl rfl) (z_preV jK jP jD [0, 1, 2, 4] (by decide) rfl rfl rfl rfl) rfl rfl jl.1 rfl (lv_room (Nat.le_of_ble_eq_true rfl)) d_CountsRule_makePoints_116 ⟨Nat.le_of_ble_eq_true rfl, Nat.le_of_ble_eq_true rfl⟩) (fun u116 H locs hu116 jP jD jS => ?_)
                  obtain ⟨rl1_116, rk1_116⟩ := u116
                  have jP : va_P D classes [(h, .inr (2, [.ref u1, .ref u2, .int (iZ rl1_116)])), (u1, .inl (cI, 256, .inl (zA k2))), (u2, .inl (cI, 256, .inl (zA rk1_116))), (qc, .inl (cI, 256, .inl (zA fc))), (q, .inl (cI, 256, .inl (zA f2)))] H := jP.sub [1, 2, 3, 0, 4] rfl
                  have jD : va_D A [(h, .inr (2, [.ref u1, .ref u2, .int (iZ rl1_116)])), (u1, .inl (cI, 256, .inl (zA k2))), (u2, .inl (cI, 256, .inl (zA rk1_116))), (qc, .inl (cI, 256, .inl (zA fc))), (q, .inl (cI, 256, .inl (zA f2)))] := jD.sub [1, 2, 3, 0, 4] (by decide) rfl
                  have hrl : rl1_116 = numR (fpF fc (2 ^ o) (sm fc 256)) 256 := hu116.1.trans (num_cg (fun k hk => h1 k hk))
                  refine lv_aload_n jx jb d_CountsRule_makePoints_119 rfl (lv_at jl 0 rfl) ?_
                  refine lv_aload_n jx jb d_CountsRule_makePoints_120 rfl (lv_at jl 3 rfl) ?_
                  refine lv_iconst (v := iZ 1) jx jb d_CountsRule_makePoints_121 rfl ?_
                  refine lv_iload_n jx jb d_CountsRule_makePoints_122 rfl (lv_at jl 2 rfl) ?_
                  refine z_ishl jx jb d_CountsRule_makePoints_123 o (2 ^ o) (rfl) (by omega) ?_
                  refine z_top (2 ^ o) (Int.one_mul _) ?_
                  refine lv_iload jx jb d_CountsRule_makePoints_124 (lv_at jl 5 rfl) ?_
                  refine z_isub jx jb d_CountsRule_makePoints_126 ?_
                  refine z_backv (wr := [(u1, .inl (cI, 256, .inl (zA k2))), (qc, .inl (cI, 256, .inl (zA fc)))]) jP jD jS jA [0, 2, 4] [1, 3] rfl rfl (by decide) (by decide) (va_runV (As := [.ref q, .int (iZ (2 ^ o - (cum (fpF fc (2 ^ o) (sm fc 256)) 256)))]) (rest := []) ⟨jx, jb, jml, jown, jts⟩ (c_Rule_giveMissing l D cI cB cZ H.size h u1 u2 rl1_116 q k2 rk1_116 f2 (2 ^ o - (cum (fpF fc (2 ^ o) (sm fc 256)) 256)) (hu116) (hfp2) (by omega) (by omega)) (zc_V 2 jts cd_CountsRule_giveMissing lk_CountsRule_30 im_CountsRule_giveMissing se_CountsRule_giveMissing in_CountsRule hd_CountsRule_giveMissing ⟨Nat.le_of_ble_eq_true rfl, Nat.le_of_ble_eq_true rfl⟩ rfl rfl) (z_preV jK jP jD [0, 2, 4] (by decide) rfl rfl rfl rfl) rfl rfl jl.1 rfl (lv_room (Nat.le_of_ble_eq_true rfl)) d_CountsRule_makePoints_127 ⟨Nat.le_of_ble_eq_true rfl, Nat.le_of_ble_eq_true rfl⟩) (fun u127 H locs hu127 jP jD jS => ?_)
                  obtain ⟨fp1_127, rfl⟩ : ∃ z, z = u127 := ⟨_, rfl⟩
                  have jP : va_P D classes [(h, .inr (2, [.ref u1, .ref u2, .int (iZ rl1_116)])), (u1, .inl (cI, 256, .inl (zA k2))), (u2, .inl (cI, 256, .inl (zA rk1_116))), (qc, .inl (cI, 256, .inl (zA fc))), (q, .inl (cI, 256, .inl (zA fp1_127)))] H := jP.sub [2, 0, 3, 1, 4] rfl
                  have jD : va_D A [(h, .inr (2, [.ref u1, .ref u2, .int (iZ rl1_116)])), (u1, .inl (cI, 256, .inl (zA k2))), (u2, .inl (cI, 256, .inl (zA rk1_116))), (qc, .inl (cI, 256, .inl (zA fc))), (q, .inl (cI, 256, .inl (zA fp1_127)))] := jD.sub [2, 0, 3, 1, 4] (by decide) rfl
                  obtain ⟨hg1, hg2⟩ := hu127
                  refine lv_aload_n jx jb d_CountsRule_makePoints_130 rfl (lv_at jl 0 rfl) ?_
                  refine lv_aload_n jx jb d_CountsRule_makePoints_131 rfl (lv_at jl 3 rfl) ?_
                  refine lv_iload jx jb d_CountsRule_makePoints_132 (lv_at jl 5 rfl) ?_
                  refine lv_iconst (v := iZ 1) jx jb d_CountsRule_makePoints_134 rfl ?_
                  refine lv_iload_n jx jb d_CountsRule_makePoints_135 rfl (lv_at jl 2 rfl) ?_
                  refine z_ishl jx jb d_CountsRule_makePoints_136 o (2 ^ o) (rfl) (by omega) ?_
                  refine z_top (2 ^ o) (Int.one_mul _) ?_
                  refine z_isub jx jb d_CountsRule_makePoints_137 ?_
                  refine z_backv (wr := [(u1, .inl (cI, 256, .inl (zA k2))), (u2, .inl (cI, 256, .inl (zA rk1_116))), (qc, .inl (cI, 256, .inl (zA fc)))]) jP jD jS jA [0, 4] [1, 2, 3] rfl rfl (by decide) (by decide) (va_runV (As := [.ref q, .int (iZ ((cum (fpF fc (2 ^ o) (sm fc 256)) 256) - (2 ^ o)))]) (rest := []) ⟨jx, jb, jml, jown, jts⟩ (c_Rule_takeExcess l D cI cB cZ H.size h u1 u2 rl1_116 q fp1_127 ((cum (fpF fc (2 ^ o) (sm fc 256)) 256) - (2 ^ o)) (fun k hk => by rw [hg1 k hk]; exact gv_b (hfp2 k hk)) (by omega)) (zc_V 2 jts cd_CountsRule_takeExcess lk_CountsRule_34 im_CountsRule_takeExcess se_CountsRule_takeExcess in_CountsRule hd_CountsRule_takeExcess ⟨Nat.le_of_ble_eq_true rfl, Nat.le_of_ble_eq_true rfl⟩ rfl rfl) (z_preV jK jP jD [0, 4] (by decide) rfl rfl rfl rfl) rfl rfl jl.1 rfl (lv_room (Nat.le_of_ble_eq_true rfl)) d_CountsRule_makePoints_138 ⟨Nat.le_of_ble_eq_true rfl, Nat.le_of_ble_eq_true rfl⟩) (fun u138 H locs hu138 jP jD jS => ?_)
                  obtain ⟨fp1_138, rfl⟩ : ∃ z, z = u138 := ⟨_, rfl⟩
                  have jP : va_P D classes [(h, .inr (2, [.ref u1, .ref u2, .int (iZ rl1_116)])), (u1, .inl (cI, 256, .inl (zA k2))), (u2, .inl (cI, 256, .inl (zA rk1_116))), (qc, .inl (cI, 256, .inl (zA fc))), (q, .inl (cI, 256, .inl (zA fp1_138)))] H := jP.sub [3, 0, 1, 2, 4] rfl
                  have jD : va_D A [(h, .inr (2, [.ref u1, .ref u2, .int (iZ rl1_116)])), (u1, .inl (cI, 256, .inl (zA k2))), (u2, .inl (cI, 256, .inl (zA rk1_116))), (qc, .inl (cI, 256, .inl (zA fc))), (q, .inl (cI, 256, .inl (zA fp1_138)))] := jD.sub [3, 0, 1, 2, 4] (by decide) rfl
                  refine lv_iconst (v := iZ 1) jx jb d_CountsRule_makePoints_141 rfl ?_
                  exact jret _ _ _ (rl1_116, k2, rk1_116, fp1_138) _ _ (Or.inr (Or.inr rfl)) (Or.inl ⟨rfl, ⟨hc51, hc59⟩, sh_fin hso hc59 rfl h1 h2 hg1 hg2 hu138⟩) (jP.sub [0, 1, 2, 3, 4] rfl) (jD.sub [0, 1, 2, 3, 4] (by decide) rfl) jS d_CountsRule_makePoints_142
                ·
                  have hfb := fp_b hso (s := j) (by omega)
                  have hsc := sc_b (hcr j (by omega)) ho.2
                  refine lv_aload_n jx jb d_CountsRule_makePoints_78 rfl (lv_at jl 3 rfl) ?_
                  refine lv_iload jx jb d_CountsRule_makePoints_79 (lv_at jl 6 rfl) ?_
                  refine lv_aload_n jx jb d_CountsRule_makePoints_81 rfl (lv_at jl 0 rfl) ?_
                  refine lv_iload jx jb d_CountsRule_makePoints_82 (lv_at jl 6 rfl) ?_
                  refine lv_aload_n jx jb d_CountsRule_makePoints_84 rfl (lv_at jl 1 rfl) ?_
                  refine lv_iload jx jb d_CountsRule_makePoints_85 (lv_at jl 6 rfl) ?_
                  refine z_iald jx jb jK.1 jP 3 0 rfl rfl j (by omega) d_CountsRule_makePoints_87 ?_
                  refine lv_iload_n jx jb d_CountsRule_makePoints_88 rfl (lv_at jl 2 rfl) ?_
                  refine z_ishl jx jb d_CountsRule_makePoints_89 o (2 ^ o) (rfl) (by omega) ?_
                  refine lv_iload jx jb d_CountsRule_makePoints_90 (lv_at jl 4 rfl) ?_
                  refine z_backi (wr := [(u2, .inl (cI, 256, .inl (zA rk))), (qc, .inl (cI, 256, .inl (zA fc))), (q, .inl (cI, 256, .inl (zA f2)))]) jP jD jS jA [0, 1] [2, 3, 4] rfl rfl (by decide) (by decide) (va_runV (As := [.int (iZ (j : Int)), .int (iZ ((fc j) * (2 ^ o))), .int (iZ (sm fc 256))]) (rest := [.int (iZ (j : Int)), .ref q]) ⟨jx, jb, jml, jown, jts⟩ (c_Rule_firstPoints l D cI cB cZ H.size h u1 u2 rl k2 j ((fc j) * (2 ^ o)) (sm fc 256) (by first | assumption | omega) (by omega) (so_T hso)) (zc_V 3 jts cd_CountsRule_firstPoints lk_CountsRule_18 im_CountsRule_firstPoints se_CountsRule_firstPoints in_CountsRule hd_CountsRule_firstPoints ⟨Nat.le_of_ble_eq_true rfl, Nat.le_of_ble_eq_true rfl⟩ rfl rfl) (z_preV jK jP jD [0, 1] (by decide) rfl rfl rfl rfl) rfl rfl jl.1 rfl (lv_room (Nat.le_of_ble_eq_true rfl)) d_CountsRule_makePoints_92 ⟨Nat.le_of_ble_eq_true rfl, Nat.le_of_ble_eq_true rfl⟩) (fun z92 u92 H locs hz92 jP jD jS => ?_)
                  obtain ⟨kc1_92, rfl⟩ : ∃ z, z = u92 := ⟨_, rfl⟩
                  have jP : va_P D classes [(h, .inr (2, [.ref u1, .ref u2, .int (iZ rl)])), (u1, .inl (cI, 256, .inl (zA kc1_92))), (u2, .inl (cI, 256, .inl (zA rk))), (qc, .inl (cI, 256, .inl (zA fc))), (q, .inl (cI, 256, .inl (zA f2)))] H := jP.sub [3, 4, 0, 1, 2] rfl
                  have jD : va_D A [(h, .inr (2, [.ref u1, .ref u2, .int (iZ rl)])), (u1, .inl (cI, 256, .inl (zA kc1_92))), (u2, .inl (cI, 256, .inl (zA rk))), (qc, .inl (cI, 256, .inl (zA fc))), (q, .inl (cI, 256, .inl (zA f2)))] := jD.sub [3, 4, 0, 1, 2] (by decide) rfl
                  obtain ⟨rfl, hq92⟩ := hz92
                  refine z_top ((fpF fc (2 ^ o) (sm fc 256)) j) (rfl) ?_
                  refine z_iast jx jb jK.1 jP jD jS 4 0 rfl rfl j (by omega) d_CountsRule_makePoints_95 (fun H locs jP jD jS => ?_)
                  have jP : va_P D classes [(h, .inr (2, [.ref u1, .ref u2, .int (iZ rl)])), (u1, .inl (cI, 256, .inl (zA kc1_92))), (u2, .inl (cI, 256, .inl (zA rk))), (qc, .inl (cI, 256, .inl (zA fc))), (q, .inl (cI, 256, .inl (zA (zu f2 j ((fpF fc (2 ^ o) (sm fc 256)) j)))))] H := jP
                  have jD : va_D A [(h, .inr (2, [.ref u1, .ref u2, .int (iZ rl)])), (u1, .inl (cI, 256, .inl (zA kc1_92))), (u2, .inl (cI, 256, .inl (zA rk))), (qc, .inl (cI, 256, .inl (zA fc))), (q, .inl (cI, 256, .inl (zA (zu f2 j ((fpF fc (2 ^ o) (sm fc 256)) j)))))] := jD
                  refine lv_iload jx jb d_CountsRule_makePoints_96 (lv_at jl 5 rfl) ?_
                  refine lv_aload_n jx jb d_CountsRule_makePoints_98 rfl (lv_at jl 3 rfl) ?_
                  refine lv_iload jx jb d_CountsRule_makePoints_99 (lv_at jl 6 rfl) ?_
                  refine z_iald jx jb jK.1 jP 4 0 rfl rfl j (by omega) d_CountsRule_makePoints_101 ?_
                  refine z_top ((fpF fc (2 ^ o) (sm fc 256)) j) (zu_s) ?_
                  refine z_backe (va_runSN (As := [.int (iZ ((fpF fc (2 ^ o) (sm fc 256)) j))]) (rest := [.int (iZ (cum (fpF fc (2 ^ o) (sm fc 256)) j))]) ⟨jx, jb, jml, jown, jts⟩ (c_weight l D cI cB cZ ((fpF fc (2 ^ o) (sm fc 256)) j) (by first | assumption | omega)) (zc_SN 1 jts cd_SC_weight (jK.nest ln_CountsRule_22 rfl) st_SC_weight in_SC hd_SC_weight ⟨Nat.le_of_ble_eq_true rfl, Nat.le_of_ble_eq_true rfl⟩ rfl rfl) (z_preSR jK jP [] rfl) rfl rfl jl.1 rfl (lv_room (Nat.le_of_ble_eq_true rfl)) d_CountsRule_makePoints_102 ⟨Nat.le_of_ble_eq_true rfl, Nat.le_of_ble_eq_true rfl⟩) ?_
                  refine z_iadd jx jb d_CountsRule_makePoints_105 ?_
                  refine lv_istore (lv' := [(6, .int (iZ ((cum (fpF fc (2 ^ o) (sm fc 256)) j) + (wgt ((fpF fc (2 ^ o) (sm fc 256)) j))))), (0, .ref h), (1, .ref qc), (2, .int (iZ (o : Int))), (3, .ref q), (4, .int (iZ (sm fc 256))), (7, .int (iZ (j : Int)))]) jx jb d_CountsRule_makePoints_106 jl (by decide) rfl (fun ls jl => ?_)
                  refine lv_iinc (v := iZ ((j : Int) + 1)) (lv' := [(7, .int (iZ ((j : Int) + 1))), (6, .int (iZ ((cum (fpF fc (2 ^ o) (sm fc 256)) j) + (wgt ((fpF fc (2 ^ o) (sm fc 256)) j))))), (0, .ref h), (1, .ref qc), (2, .int (iZ (o : Int))), (3, .ref q), (4, .int (iZ (sm fc 256)))]) jx jb d_CountsRule_makePoints_108 jl (k := 6) rfl (iZ_add _ _) (by decide) rfl (fun ls jl => ?_)
                  refine lv_goto (tgt := 70) jx jb d_CountsRule_makePoints_111 (by decide) ?_
                  exact ih70 (j + 1) kc1_92 (zu f2 j ((fpF fc (2 ^ o) (sm fc 256)) j)) (by omega) (by first | assumption | omega) (zu_all h1 rfl) (ct_s h2 hq92) _ _ (jP.sub [0, 1, 2, 3, 4] rfl) (jD.sub [0, 1, 2, 3, 4] (by decide) rfl) jS _ (lv_sub jl [2, 3, 4, 5, 6, 1, 0] rfl)
            exact hloop70 ((256 - 0) + 1) 0 kc fp (Nat.lt_succ_self _) (by first | assumption | omega) (fun k h => absurd h (by omega)) (fun k h => absurd h (by omega)) _ _ (jP.sub [0, 1, 2, 3, 4] rfl) (jD.sub [0, 1, 2, 3, 4] (by decide) rfl) jS _ (lv_sub jl [2, 3, 4, 5, 6, 1, 0] rfl)
          ·
            refine lv_iconst (v := iZ 0) jx jb d_CountsRule_makePoints_62 rfl ?_
            exact jret _ _ _ (rl, kc, rk, fp) _ _ (Or.inr (Or.inl rfl)) (by first | exact Or.inr ⟨rfl, fun q => absurd q.1 (by omega)⟩ | exact Or.inr ⟨rfl, fun q => absurd q.2 (by omega)⟩) (jP.sub [0, 1, 2, 3, 4] rfl) (jD.sub [0, 1, 2, 3, 4] (by decide) rfl) jS d_CountsRule_makePoints_63
      ·
        have hci := hcr i (by omega)
        refine lv_iload jx jb d_CountsRule_makePoints_17 (lv_at jl 4 rfl) ?_
        refine lv_aload_n jx jb d_CountsRule_makePoints_19 rfl (lv_at jl 1 rfl) ?_
        refine lv_iload jx jb d_CountsRule_makePoints_20 (lv_at jl 6 rfl) ?_
        refine z_iald jx jb jK.1 jP 3 0 rfl rfl i (by omega) d_CountsRule_makePoints_22 ?_
        refine z_iadd jx jb d_CountsRule_makePoints_23 ?_
        refine lv_istore (lv' := [(4, .int (iZ ((sm fc i) + (fc i)))), (0, .ref h), (1, .ref qc), (2, .int (iZ (o : Int))), (3, .ref q), (5, .int (iZ (usd fc i))), (6, .int (iZ (i : Int)))]) jx jb d_CountsRule_makePoints_24 jl (by decide) rfl (fun ls jl => ?_)
        refine lv_iload jx jb d_CountsRule_makePoints_26 (lv_at jl 5 rfl) ?_
        refine lv_aload_n jx jb d_CountsRule_makePoints_28 rfl (lv_at jl 2 rfl) ?_
        refine lv_iload jx jb d_CountsRule_makePoints_29 (lv_at jl 6 rfl) ?_
        refine z_iald jx jb jK.1 jP 3 0 rfl rfl i (by omega) d_CountsRule_makePoints_31 ?_
        refine z_if_le (tgt := 39) jx jb d_CountsRule_makePoints_32 (by decide) ⟨by omega, by omega⟩ (fun hc32 => ?_) (fun hc32 => ?_)
        ·
          refine lv_iconst (v := iZ 0) jx jb d_CountsRule_makePoints_39 rfl ?_
          refine z_iadd jx jb d_CountsRule_makePoints_40 ?_
          refine z_top (usd fc (i + 1)) (by first | exact usd_p hc32 | exact (Int.add_zero _).trans (usd_z hc32)) ?_
          refine lv_istore (lv' := [(5, .int (iZ (usd fc (i + 1)))), (4, .int (iZ ((sm fc i) + (fc i)))), (0, .ref h), (1, .ref qc), (2, .int (iZ (o : Int))), (3, .ref q), (6, .int (iZ (i : Int)))]) jx jb d_CountsRule_makePoints_41 jl (by decide) rfl (fun ls jl => ?_)
          refine lv_iinc (v := iZ ((i : Int) + 1)) (lv' := [(6, .int (iZ ((i : Int) + 1))), (5, .int (iZ (usd fc (i + 1)))), (4, .int (iZ ((sm fc i) + (fc i)))), (0, .ref h), (1, .ref qc), (2, .int (iZ (o : Int))), (3, .ref q)]) jx jb d_CountsRule_makePoints_43 jl (k := 6) rfl (iZ_add _ _) (by decide) rfl (fun ls jl => ?_)
          refine lv_goto (tgt := 9) jx jb d_CountsRule_makePoints_46 (by decide) ?_
          exact ih9 (i + 1) (by omega) (by first | assumption | omega) _ _ (jP.sub [0, 1, 2, 3, 4] rfl) (jD.sub [0, 1, 2, 3, 4] (by decide) rfl) jS _ (lv_sub jl [3, 4, 5, 6, 2, 1, 0] rfl)
        ·
          refine lv_iconst (v := iZ 1) jx jb d_CountsRule_makePoints_35 rfl ?_
          refine lv_goto (tgt := 40) jx jb d_CountsRule_makePoints_36 (by decide) ?_
          refine z_iadd jx jb d_CountsRule_makePoints_40 ?_
          refine z_top (usd fc (i + 1)) (by first | exact usd_p hc32 | exact (Int.add_zero _).trans (usd_z hc32)) ?_
          refine lv_istore (lv' := [(5, .int (iZ (usd fc (i + 1)))), (4, .int (iZ ((sm fc i) + (fc i)))), (0, .ref h), (1, .ref qc), (2, .int (iZ (o : Int))), (3, .ref q), (6, .int (iZ (i : Int)))]) jx jb d_CountsRule_makePoints_41 jl (by decide) rfl (fun ls jl => ?_)
          refine lv_iinc (v := iZ ((i : Int) + 1)) (lv' := [(6, .int (iZ ((i : Int) + 1))), (5, .int (iZ (usd fc (i + 1)))), (4, .int (iZ ((sm fc i) + (fc i)))), (0, .ref h), (1, .ref qc), (2, .int (iZ (o : Int))), (3, .ref q)]) jx jb d_CountsRule_makePoints_43 jl (k := 6) rfl (iZ_add _ _) (by decide) rfl (fun ls jl => ?_)
          refine lv_goto (tgt := 9) jx jb d_CountsRule_makePoints_46 (by decide) ?_
          exact ih9 (i + 1) (by omega) (by first | assumption | omega) _ _ (jP.sub [0, 1, 2, 3, 4] rfl) (jD.sub [0, 1, 2, 3, 4] (by decide) rfl) jS _ (lv_sub jl [3, 4, 5, 6, 2, 1, 0] rfl)
  exact hloop9 ((256 - 0) + 1) 0 (Nat.lt_succ_self _) (by first | assumption | omega) _ _ (jP.sub [0, 1, 2, 3, 4] rfl) (jD.sub [0, 1, 2, 3, 4] (by decide) rfl) jS _ (lv_sub jl [3, 4, 5, 6, 2, 1, 0] rfl)
abbrev rm_SC_share : Room := { frames := 5, cells := 0, slots := 0, locals := 111 }
set_option maxHeartbeats 4000000 in
set_option maxRecDepth 100000 in
theorem c_SC_share (l : Launch) (D : va_G) (cI cB cZ : ClassId) (sz : Nat) (g : Nat) (qc : Nat) (qp : Nat) (qi : Nat) (qs : Nat) (qr : Nat) (qo : Nat) (qx : Nat) (ps : Int) (pP : Nat) (pS : Nat) (pB : Nat) (pA : Nat) (pC : Nat) (pF : Nat) (pN : Nat) (o : Nat) (u1 : Nat) (u2 : Nat) (rl : Int) (fc : Nat → Int) (fp : Nat → Int) (kc : Nat → Int) (rk : Nat → Int) (gP : Nat → Int) (gS : Nat → Int) (gB : Nat → Int) (gA : Nat → Int) (gC : Nat → Int) (gF : Nat → Int) (gN : Nat → Int) (x : Int) (hcr : ∀ k, k < 256 → 0 ≤ fc k ∧ fc k ≤ 65535) (hx1 : -2147483648 ≤ x ∧ x < 2147483648) : Met l y_SC_share (.code y_SC_share b_SC_share 2 (some .boolean) :: zT) rm_SC_share (zPc D classes (TY cI cB cZ) [(g, .inr (3, [.ref qc, .ref qp, .ref qi, .ref qs, .ref qr, .ref qo, .ref qx, .int (iZ ps)])), (qc, .inl (cI, 256, .inl (zA fc))), (qp, .inl (cI, 256, .inl (zA fp))), (qr, .inr (2, [.ref u1, .ref u2, .int (iZ rl)])), (u1, .inl (cI, 256, .inl (zA kc))), (u2, .inl (cI, 256, .inl (zA rk))), (qs, .inr (1, [.ref pP, .ref pS, .ref pB, .ref pA, .ref pC, .ref pF, .ref pN, .int (iZ (o : Int))])), (pP, .inl (cI, 256, .inl (zA gP))), (pS, .inl (cI, 4096, .inl (zA gS))), (pB, .inl (cI, 4096, .inl (zA gB))), (pA, .inl (cI, 4096, .inl (zA gA))), (pC, .inl (cI, 4096, .inl (zA gC))), (pF, .inl (cI, 256, .inl (zA gF))), (pN, .inl (cI, 256, .inl (zA gN)))] sz [.ref g, .int (iZ x)]) (zFi (S := Int × (Nat → Int) × Int × (Nat → Int) × (Nat → Int) × (Nat → Int) × (Nat → Int) × (Nat → Int) × (Nat → Int) × (Nat → Int) × (Nat → Int) × (Nat → Int)) D classes (fun z u => (z = 1 ∧ sOK fc x ∧ u.1 = x ∧ (∀ k, k < 256 → u.2.2.2.2.2.1 k = (shP fc (2 ^ x.toNat) (sm fc 256)) k) ∧ cum u.2.2.2.2.2.1 256 = 2 ^ x.toNat ∧ (∀ k, k < 256 → -1 ≤ u.2.2.2.2.2.1 k ∧ u.2.2.2.2.2.1 k ≤ 65536) ∧ u.2.2.2.2.2.2.1 = tbT u.2.2.2.2.2.1 x.toNat gS ∧ shOK u.2.2.2.2.2.1 u.2.2.2.2.2.2.1 u.2.2.2.2.2.2.2.1 u.2.2.2.2.2.2.2.2.1 u.2.2.2.2.2.2.2.2.2.1 u.2.2.2.2.2.2.2.2.2.2.1 x.toNat) ∨ (z = 0 ∧ ¬ sOK fc x ∧ u.1 = (o : Int) ∧ u.2.2.2.2.2.1 = gP ∧ u.2.2.2.2.2.2.1 = gS ∧ u.2.2.2.2.2.2.2.1 = gB ∧ u.2.2.2.2.2.2.2.2.1 = gA ∧ u.2.2.2.2.2.2.2.2.2.1 = gC ∧ u.2.2.2.2.2.2.2.2.2.2.1 = gF ∧ u.2.2.2.2.2.2.2.2.2.2.2 = gN)) (fun u => [(g, .inr (3, [.ref qc, .ref qp, .ref qi, .ref qs, .ref qr, .ref qo, .ref qx, .int (iZ ps)])), (qc, .inl (cI, 256, .inl (zA fc))), (qp, .inl (cI, 256, .inl (zA u.2.1))), (qr, .inr (2, [.ref u1, .ref u2, .int (iZ u.2.2.1)])), (u1, .inl (cI, 256, .inl (zA u.2.2.2.1))), (u2, .inl (cI, 256, .inl (zA u.2.2.2.2.1))), (qs, .inr (1, [.ref pP, .ref pS, .ref pB, .ref pA, .ref pC, .ref pF, .ref pN, .int (iZ u.1)])), (pP, .inl (cI, 256, .inl (zA u.2.2.2.2.2.1))), (pS, .inl (cI, 4096, .inl (zA u.2.2.2.2.2.2.1))), (pB, .inl (cI, 4096, .inl (zA u.2.2.2.2.2.2.2.1))), (pA, .inl (cI, 4096, .inl (zA u.2.2.2.2.2.2.2.2.1))), (pC, .inl (cI, 4096, .inl (zA u.2.2.2.2.2.2.2.2.2.1))), (pF, .inl (cI, 256, .inl (zA u.2.2.2.2.2.2.2.2.2.2.1))), (pN, .inl (cI, 256, .inl (zA u.2.2.2.2.2.2.2.2.2.2.2)))]) (va_A [(g, .inr (3, [.ref qc, .ref qp, .ref qi, .ref qs, .ref qr, .ref qo, .ref qx, .int (iZ ps)])), (qc, .inl (cI, 256, .inl (zA fc))), (qp, .inl (cI, 256, .inl (zA fp))), (qr, .inr (2, [.ref u1, .ref u2, .int (iZ rl)])), (u1, .inl (cI, 256, .inl (zA kc))), (u2, .inl (cI, 256, .inl (zA rk))), (qs, .inr (1, [.ref pP, .ref pS, .ref pB, .ref pA, .ref pC, .ref pF, .ref pN, .int (iZ (o : Int))])), (pP, .inl (cI, 256, .inl (zA gP))), (pS, .inl (cI, 4096, .inl (zA gS))), (pB, .inl (cI, 4096, .inl (zA gB))), (pA, .inl (cI, 4096, .inl (zA gA))), (pC, .inl (cI, 4096, .inl (zA gC))), (pF, .inl (cI, 256, .inl (zA gF))), (pN, .inl (cI, 256, .inl (zA gN)))] sz)) 0 0 (va_A [(g, .inr (3, [.ref qc, .ref qp, .ref qi, .ref qs, .ref qr, .ref qo, .ref qx, .int (iZ ps)])), (qc, .inl (cI, 256, .inl (zA fc))), (qp, .inl (cI, 256, .inl (zA fp))), (qr, .inr (2, [.ref u1, .ref u2, .int (iZ rl)])), (u1, .inl (cI, 256, .inl (zA kc))), (u2, .inl (cI, 256, .inl (zA rk))), (qs, .inr (1, [.ref pP, .ref pS, .ref pB, .ref pA, .ref pC, .ref pF, .ref pN, .int (iZ (o : Int))])), (pP, .inl (cI, 256, .inl (zA gP))), (pS, .inl (cI, 4096, .inl (zA gS))), (pB, .inl (cI, 4096, .inl (zA gB))), (pA, .inl (cI, 4096, .inl (zA gA))), (pC, .inl (cI, 4096, .inl (zA gC))), (pF, .inl (cI, 256, .inl (zA gF))), (pN, .inl (cI, 256, .inl (zA gN)))] sz) := by
  refine z_ofi (by decide) (Nat.le_of_ble_eq_true rfl) (Or.inr rfl) ?_
  intro p e s m args below meth c A Q E jA jK jret H locs jP jD jS ls jl
  obtain ⟨jx, jb, jrt, jml, jown, jts, jlk⟩ := E
  have jown : s.vm.findClass R_SC = some m.cls := jown
  have jl : lv_has ls 2 [(0, .ref g), (1, .int (iZ x))] := jl
  refine lv_iload_n jx jb d_SC_share_0 rfl (lv_at jl 1 rfl) ?_
  refine z_backr (va_runS (As := [.int (iZ x)]) (rest := []) ⟨jx, jb, jml, jown, jts⟩ (c_isOrder l D cI cB cZ x (by first | assumption | omega)) (zc_S 1 jts cd_SC_isOrder lk_SC_77 st_SC_isOrder in_SC hd_SC_isOrder ⟨Nat.le_of_ble_eq_true rfl, Nat.le_of_ble_eq_true rfl⟩ rfl rfl) (z_preSR jK jP [] rfl) rfl rfl jl.1 rfl (lv_room (Nat.le_of_ble_eq_true rfl)) d_SC_share_1 ⟨Nat.le_of_ble_eq_true rfl, Nat.le_of_ble_eq_true rfl⟩) (fun z1 hz1 => ?_)
  rcases hz1 with ⟨rfl, hq1⟩ | ⟨rfl, hq1⟩
  ·
    refine z_if_eq (tgt := 26) jx jb d_SC_share_4 (by decide) ⟨by decide, by decide⟩ (fun hc4 => ?_) (fun hc4 => ?_)
    ·
      exact absurd hc4 (by decide)
    ·
      refine lv_aload_n jx jb d_SC_share_7 rfl (lv_at jl 0 rfl) ?_
      refine va_get (D := D) (ci := 3) (v := .ref qr) (C := R_SC) (T := F_SC) (N := 8) jx jb jts i_SC jown jK.1 jP 0 rfl rfl 4 (by decide) (jts _ fl_SC_33) (fun _ h9 => h9) rfl d_SC_share_8 ?_
      refine lv_aload_n jx jb d_SC_share_11 rfl (lv_at jl 0 rfl) ?_
      refine va_get (D := D) (ci := 3) (v := .ref qc) (C := R_SC) (T := F_SC) (N := 8) jx jb jts i_SC jown jK.1 jP 0 rfl rfl 0 (by decide) (jts _ fl_SC_9) (fun _ h9 => h9) rfl d_SC_share_12 ?_
      refine lv_iload_n jx jb d_SC_share_15 rfl (lv_at jl 1 rfl) ?_
      refine z_top ((x.toNat : Nat) : Int) (by omega) ?_
      refine lv_aload_n jx jb d_SC_share_16 rfl (lv_at jl 0 rfl) ?_
      refine va_get (D := D) (ci := 3) (v := .ref qp) (C := R_SC) (T := F_SC) (N := 8) jx jb jts i_SC jown jK.1 jP 0 rfl rfl 1 (by decide) (jts _ fl_SC_13) (fun _ h9 => h9) rfl d_SC_share_17 ?_
      refine z_backi (wr := [(g, .inr (3, [.ref qc, .ref qp, .ref qi, .ref qs, .ref qr, .ref qo, .ref qx, .int (iZ ps)])), (qs, .inr (1, [.ref pP, .ref pS, .ref pB, .ref pA, .ref pC, .ref pF, .ref pN, .int (iZ (o : Int))])), (pP, .inl (cI, 256, .inl (zA gP))), (pS, .inl (cI, 4096, .inl (zA gS))), (pB, .inl (cI, 4096, .inl (zA gB))), (pA, .inl (cI, 4096, .inl (zA gA))), (pC, .inl (cI, 4096, .inl (zA gC))), (pF, .inl (cI, 256, .inl (zA gF))), (pN, .inl (cI, 256, .inl (zA gN)))]) jP jD jS jA [3, 4, 5, 1, 2] [0, 6, 7, 8, 9, 10, 11, 12, 13] rfl rfl (by decide) (by decide) (va_runV (As := [.ref qc, .int (iZ ((x.toNat : Nat) : Int)), .ref qp]) (rest := []) ⟨jx, jb, jml, jown, jts⟩ (c_Rule_makePoints l D cI cB cZ H.size qr u1 u2 rl qc qp (x.toNat : Nat) kc rk fc fp (by first | assumption | omega) (by omega)) (zc_V 3 jts cd_CountsRule_makePoints lk_SC_80 im_CountsRule_makePoints se_CountsRule_makePoints in_CountsRule hd_CountsRule_makePoints ⟨Nat.le_of_ble_eq_true rfl, Nat.le_of_ble_eq_true rfl⟩ rfl rfl) (z_preV jK jP jD [3, 4, 5, 1, 2] (by decide) rfl rfl rfl rfl) rfl rfl jl.1 rfl (lv_room (Nat.le_of_ble_eq_true rfl)) d_SC_share_20 ⟨Nat.le_of_ble_eq_true rfl, Nat.le_of_ble_eq_true rfl⟩) (fun z20 u20 H locs hz20 jP jD jS => ?_)
      obtain ⟨rl1_20, kc1_20, rk1_20, fp1_20⟩ := u20
      have jP : va_P D classes [(g, .inr (3, [.ref qc, .ref qp, .ref qi, .ref qs, .ref qr, .ref qo, .ref qx, .int (iZ ps)])), (qc, .inl (cI, 256, .inl (zA fc))), (qp, .inl (cI, 256, .inl (zA fp1_20))), (qr, .inr (2, [.ref u1, .ref u2, .int (iZ rl1_20)])), (u1, .inl (cI, 256, .inl (zA kc1_20))), (u2, .inl (cI, 256, .inl (zA rk1_20))), (qs, .inr (1, [.ref pP, .ref pS, .ref pB, .ref pA, .ref pC, .ref pF, .ref pN, .int (iZ (o : Int))])), (pP, .inl (cI, 256, .inl (zA gP))), (pS, .inl (cI, 4096, .inl (zA gS))), (pB, .inl (cI, 4096, .inl (zA gB))), (pA, .inl (cI, 4096, .inl (zA gA))), (pC, .inl (cI, 4096, .inl (zA gC))), (pF, .inl (cI, 256, .inl (zA gF))), (pN, .inl (cI, 256, .inl (zA gN)))] H := jP.sub [0, 12, 13, 9, 10, 11, 1, 2, 3, 4, 5, 6, 7, 8] rfl
      have jD : va_D A [(g, .inr (3, [.ref qc, .ref qp, .ref qi, .ref qs, .ref qr, .ref qo, .ref qx, .int (iZ ps)])), (qc, .inl (cI, 256, .inl (zA fc))), (qp, .inl (cI, 256, .inl (zA fp1_20))), (qr, .inr (2, [.ref u1, .ref u2, .int (iZ rl1_20)])), (u1, .inl (cI, 256, .inl (zA kc1_20))), (u2, .inl (cI, 256, .inl (zA rk1_20))), (qs, .inr (1, [.ref pP, .ref pS, .ref pB, .ref pA, .ref pC, .ref pF, .ref pN, .int (iZ (o : Int))])), (pP, .inl (cI, 256, .inl (zA gP))), (pS, .inl (cI, 4096, .inl (zA gS))), (pB, .inl (cI, 4096, .inl (zA gB))), (pA, .inl (cI, 4096, .inl (zA gA))), (pC, .inl (cI, 4096, .inl (zA gC))), (pF, .inl (cI, 256, .inl (zA gF))), (pN, .inl (cI, 256, .inl (zA gN)))] := jD.sub [0, 12, 13, 9, 10, 11, 1, 2, 3, 4, 5, 6, 7, 8] (by decide) rfl
      rcases hz20 with ⟨rfl, hq20⟩ | ⟨rfl, hq20⟩
      ·
        refine z_if_ne (tgt := 28) jx jb d_SC_share_23 (by decide) ⟨by decide, by decide⟩ (fun hc23 => ?_) (fun hc23 => ?_)
        ·
          refine lv_aload_n jx jb d_SC_share_28 rfl (lv_at jl 0 rfl) ?_
          refine va_get (D := D) (ci := 3) (v := .ref qs) (C := R_SC) (T := F_SC) (N := 8) jx jb jts i_SC jown jK.1 jP 0 rfl rfl 3 (by decide) (jts _ fl_SC_26) (fun _ h9 => h9) rfl d_SC_share_29 ?_
          refine lv_iload_n jx jb d_SC_share_32 rfl (lv_at jl 1 rfl) ?_
          refine z_top ((x.toNat : Nat) : Int) (by omega) ?_
          refine lv_aload_n jx jb d_SC_share_33 rfl (lv_at jl 0 rfl) ?_
          refine va_get (D := D) (ci := 3) (v := .ref qp) (C := R_SC) (T := F_SC) (N := 8) jx jb jts i_SC jown jK.1 jP 0 rfl rfl 1 (by decide) (jts _ fl_SC_13) (fun _ h9 => h9) rfl d_SC_share_34 ?_
          refine z_backv (wr := [(g, .inr (3, [.ref qc, .ref qp, .ref qi, .ref qs, .ref qr, .ref qo, .ref qx, .int (iZ ps)])), (qc, .inl (cI, 256, .inl (zA fc))), (qr, .inr (2, [.ref u1, .ref u2, .int (iZ rl1_20)])), (u1, .inl (cI, 256, .inl (zA kc1_20))), (u2, .inl (cI, 256, .inl (zA rk1_20)))]) jP jD jS jA [6, 7, 8, 9, 10, 11, 12, 13, 2] [0, 1, 3, 4, 5] rfl rfl (by decide) (by decide) (va_runV (As := [.int (iZ ((x.toNat : Nat) : Int)), .ref qp]) (rest := []) ⟨jx, jb, jml, jown, jts⟩ (c_Share_become l D cI cB cZ H.size qs pP pS pB pA pC pF pN (o : Int) (x.toNat : Nat) qp gP gS gB gA gC gF gN fp1_20 (by omega) (hq20.2.2.2) (hq20.2.2.1)) (zc_V 2 jts cd_Share_become lk_SC_84 im_Share_become se_Share_become in_Share hd_Share_become ⟨Nat.le_of_ble_eq_true rfl, Nat.le_of_ble_eq_true rfl⟩ rfl rfl) (z_preV jK jP jD [6, 7, 8, 9, 10, 11, 12, 13, 2] (by decide) rfl rfl rfl rfl) rfl rfl jl.1 rfl (lv_room (Nat.le_of_ble_eq_true rfl)) d_SC_share_37 ⟨Nat.le_of_ble_eq_true rfl, Nat.le_of_ble_eq_true rfl⟩) (fun u37 H locs hu37 jP jD jS => ?_)
          obtain ⟨gP1_37, gS1_37, gB1_37, gA1_37, gC1_37, gF1_37, gN1_37⟩ := u37
          have jP : va_P D classes [(g, .inr (3, [.ref qc, .ref qp, .ref qi, .ref qs, .ref qr, .ref qo, .ref qx, .int (iZ ps)])), (qc, .inl (cI, 256, .inl (zA fc))), (qp, .inl (cI, 256, .inl (zA fp1_20))), (qr, .inr (2, [.ref u1, .ref u2, .int (iZ rl1_20)])), (u1, .inl (cI, 256, .inl (zA kc1_20))), (u2, .inl (cI, 256, .inl (zA rk1_20))), (qs, .inr (1, [.ref pP, .ref pS, .ref pB, .ref pA, .ref pC, .ref pF, .ref pN, .int (iZ ((x.toNat : Nat) : Int))])), (pP, .inl (cI, 256, .inl (zA gP1_37))), (pS, .inl (cI, 4096, .inl (zA gS1_37))), (pB, .inl (cI, 4096, .inl (zA gB1_37))), (pA, .inl (cI, 4096, .inl (zA gA1_37))), (pC, .inl (cI, 4096, .inl (zA gC1_37))), (pF, .inl (cI, 256, .inl (zA gF1_37))), (pN, .inl (cI, 256, .inl (zA gN1_37)))] H := jP.sub [0, 1, 13, 2, 3, 4, 5, 6, 7, 8, 9, 10, 11, 12] rfl
          have jD : va_D A [(g, .inr (3, [.ref qc, .ref qp, .ref qi, .ref qs, .ref qr, .ref qo, .ref qx, .int (iZ ps)])), (qc, .inl (cI, 256, .inl (zA fc))), (qp, .inl (cI, 256, .inl (zA fp1_20))), (qr, .inr (2, [.ref u1, .ref u2, .int (iZ rl1_20)])), (u1, .inl (cI, 256, .inl (zA kc1_20))), (u2, .inl (cI, 256, .inl (zA rk1_20))), (qs, .inr (1, [.ref pP, .ref pS, .ref pB, .ref pA, .ref pC, .ref pF, .ref pN, .int (iZ ((x.toNat : Nat) : Int))])), (pP, .inl (cI, 256, .inl (zA gP1_37))), (pS, .inl (cI, 4096, .inl (zA gS1_37))), (pB, .inl (cI, 4096, .inl (zA gB1_37))), (pA, .inl (cI, 4096, .inl (zA gA1_37))), (pC, .inl (cI, 4096, .inl (zA gC1_37))), (pF, .inl (cI, 256, .inl (zA gF1_37))), (pN, .inl (cI, 256, .inl (zA gN1_37)))] := jD.sub [0, 1, 13, 2, 3, 4, 5, 6, 7, 8, 9, 10, 11, 12] (by decide) rfl
          obtain ⟨hu1, hu2, hu3⟩ := hu37
          refine lv_iconst (v := iZ 1) jx jb d_SC_share_40 rfl ?_
          exact jret _ _ _ (((x.toNat : Nat) : Int), fp1_20, rl1_20, kc1_20, rk1_20, gP1_37, gS1_37, gB1_37, gA1_37, gC1_37, gF1_37, gN1_37) _ _ (Or.inr (Or.inr rfl)) (Or.inl ⟨rfl, ⟨by omega, by omega, hq20.1.1, hq20.1.2⟩, by omega, fun k hk => (hu1 k hk).trans (hq20.2.1 k hk), (cum_congr (fun k hk => hu1 k hk)).trans hq20.2.2.1, fun k hk => by rw [hu1 k hk]; exact hq20.2.2.2 k hk, hu2, hu3⟩) (jP.sub [0, 1, 2, 3, 4, 5, 6, 7, 8, 9, 10, 11, 12, 13] rfl) (jD.sub [0, 1, 2, 3, 4, 5, 6, 7, 8, 9, 10, 11, 12, 13] (by decide) rfl) jS d_SC_share_41
        ·
          exact absurd hc23 (by decide)
      ·
        refine z_if_ne (tgt := 28) jx jb d_SC_share_23 (by decide) ⟨by decide, by decide⟩ (fun hc23 => ?_) (fun hc23 => ?_)
        ·
          exact absurd hc23 (by decide)
        ·
          refine lv_iconst (v := iZ 0) jx jb d_SC_share_26 rfl ?_
          exact jret _ _ _ ((o : Int), fp1_20, rl1_20, kc1_20, rk1_20, gP, gS, gB, gA, gC, gF, gN) _ _ (Or.inr (Or.inl rfl)) (by first | exact Or.inr ⟨rfl, fun q => absurd q.1 (by have := q.2.1; omega), rfl, rfl, rfl, rfl, rfl, rfl, rfl, rfl⟩ | exact Or.inr ⟨rfl, fun q => hq20 ⟨q.2.2.1, q.2.2.2⟩, rfl, rfl, rfl, rfl, rfl, rfl, rfl, rfl⟩) (jP.sub [0, 1, 2, 3, 4, 5, 6, 7, 8, 9, 10, 11, 12, 13] rfl) (jD.sub [0, 1, 2, 3, 4, 5, 6, 7, 8, 9, 10, 11, 12, 13] (by decide) rfl) jS d_SC_share_27
  ·
    refine z_if_eq (tgt := 26) jx jb d_SC_share_4 (by decide) ⟨by decide, by decide⟩ (fun hc4 => ?_) (fun hc4 => ?_)
    ·
      refine lv_iconst (v := iZ 0) jx jb d_SC_share_26 rfl ?_
      exact jret _ _ _ ((o : Int), fp, rl, kc, rk, gP, gS, gB, gA, gC, gF, gN) _ _ (Or.inr (Or.inl rfl)) (by first | exact Or.inr ⟨rfl, fun q => absurd q.1 (by have := q.2.1; omega), rfl, rfl, rfl, rfl, rfl, rfl, rfl, rfl⟩ | exact Or.inr ⟨rfl, fun q => hq20 ⟨q.2.2.1, q.2.2.2⟩, rfl, rfl, rfl, rfl, rfl, rfl, rfl, rfl⟩) (jP.sub [0, 1, 2, 3, 4, 5, 6, 7, 8, 9, 10, 11, 12, 13] rfl) (jD.sub [0, 1, 2, 3, 4, 5, 6, 7, 8, 9, 10, 11, 12, 13] (by decide) rfl) jS d_SC_share_27
    ·
      exact absurd hc4 (by decide)
