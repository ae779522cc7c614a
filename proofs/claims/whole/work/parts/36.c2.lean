theorem lk_SC_59 : Cond.methodLink R_SC 59 y_Row_empty ∈ zT := zT_of (List.mem_of_getElem? (i := 187) (by decide +kernel)) rfl
theorem cd_Arrays_fill : Cond.code y_Arrays_fill b_Arrays_fill 4 none ∈ zT := zT_of (List.mem_of_getElem? (i := 190) (by decide +kernel)) rfl
theorem in_Arrays : Cond.initialized R_Arrays ∈ zT := zT_of (List.mem_of_getElem? (i := 41) (by decide +kernel)) rfl
theorem hd_Arrays_fill : y_Arrays_fill.cls ≠ "java/lang/invoke/MethodHandle" ∧ y_Arrays_fill.cls ≠ "java/lang/invoke/VarHandle" ∧ (parseMethodDescriptor y_Arrays_fill.desc).map (fun d => d.parameters.length) = some 2 := by decide +kernel
theorem lk_SC_62 : Cond.methodLink R_SC 62 y_Arrays_fill ∈ zT := zT_of (List.mem_of_getElem? (i := 188) (by decide +kernel)) rfl
theorem st_Arrays_fill : Cond.static y_Arrays_fill ∈ zT := zT_of (List.mem_of_getElem? (i := 189) (by decide +kernel)) rfl
theorem lk_ShareWriter_27 : Cond.methodLink R_ShareWriter 27 y_Share_pointsOf ∈ zT := zT_of (List.mem_of_getElem? (i := 322) (by decide +kernel)) rfl
theorem lk_ShareWriter_9 : Cond.methodLink R_ShareWriter 9 y_Row_empty ∈ zT := zT_of (List.mem_of_getElem? (i := 311) (by decide +kernel)) rfl
theorem lk_ShareWriter_14 : Cond.methodLink R_ShareWriter 14 y_Share_order ∈ zT := zT_of (List.mem_of_getElem? (i := 312) (by decide +kernel)) rfl
theorem lk_ShareWriter_24 : Cond.methodLink R_ShareWriter 24 y_Share_cells ∈ zT := zT_of (List.mem_of_getElem? (i := 321) (by decide +kernel)) rfl
theorem cd_Row_closeBits : Cond.code y_Row_closeBits b_Row_closeBits 1 none ∈ zT := zT_of (List.mem_of_getElem? (i := 345) (by decide +kernel)) rfl
theorem hd_Row_closeBits : y_Row_closeBits.cls ≠ "java/lang/invoke/MethodHandle" ∧ y_Row_closeBits.cls ≠ "java/lang/invoke/VarHandle" ∧ (parseMethodDescriptor y_Row_closeBits.desc).map (fun d => d.parameters.length) = some 0 := by decide +kernel
theorem lk_ShareWriter_44 : Cond.methodLink R_ShareWriter 44 y_Row_closeBits ∈ zT := zT_of (List.mem_of_getElem? (i := 342) (by decide +kernel)) rfl
theorem im_Row_closeBits : Cond.instanceMethod y_Row_closeBits ∈ zT := zT_of (List.mem_of_getElem? (i := 343) (by decide +kernel)) rfl
theorem se_Row_closeBits : Cond.selects R_Row y_Row_closeBits y_Row_closeBits ∈ zT := zT_of (List.mem_of_getElem? (i := 344) (by decide +kernel)) rfl
theorem cd_ShareWriter_putNumber : Cond.code y_ShareWriter_putNumber b_ShareWriter_putNumber 4 none ∈ zT := zT_of (List.mem_of_getElem? (i := 325) (by decide +kernel)) rfl
theorem in_ShareWriter : Cond.initialized R_ShareWriter ∈ zT := zT_of (List.mem_of_getElem? (i := 42) (by decide +kernel)) rfl
theorem hd_ShareWriter_putNumber : y_ShareWriter_putNumber.cls ≠ "java/lang/invoke/MethodHandle" ∧ y_ShareWriter_putNumber.cls ≠ "java/lang/invoke/VarHandle" ∧ (parseMethodDescriptor y_ShareWriter_putNumber.desc).map (fun d => d.parameters.length) = some 3 := by decide +kernel
theorem lk_ShareWriter_31 : Cond.methodLink R_ShareWriter 31 y_ShareWriter_putNumber ∈ zT := zT_of (List.mem_of_getElem? (i := 323) (by decide +kernel)) rfl
theorem st_ShareWriter_putNumber : Cond.static y_ShareWriter_putNumber ∈ zT := zT_of (List.mem_of_getElem? (i := 324) (by decide +kernel)) rfl
theorem ln_ShareWriter_37 : Cond.methodLinkNest R_ShareWriter 37 y_SC_weight R_SC ∈ lw_tbl := List.mem_of_getElem? (i := 338) (by decide +kernel)
theorem cd_ShareWriter_putZeros : Cond.code y_ShareWriter_putZeros b_ShareWriter_putZeros 5 (some .int) ∈ zT := zT_of (List.mem_of_getElem? (i := 341) (by decide +kernel)) rfl
theorem hd_ShareWriter_putZeros : y_ShareWriter_putZeros.cls ≠ "java/lang/invoke/MethodHandle" ∧ y_ShareWriter_putZeros.cls ≠ "java/lang/invoke/VarHandle" ∧ (parseMethodDescriptor y_ShareWriter_putZeros.desc).map (fun d => d.parameters.length) = some 3 := by decide +kernel
theorem lk_ShareWriter_40 : Cond.methodLink R_ShareWriter 40 y_ShareWriter_putZeros ∈ zT := zT_of (List.mem_of_getElem? (i := 339) (by decide +kernel)) rfl
theorem st_ShareWriter_putZeros : Cond.static y_ShareWriter_putZeros ∈ zT := zT_of (List.mem_of_getElem? (i := 340) (by decide +kernel)) rfl
theorem cd_ShareWriter_putShare : Cond.code y_ShareWriter_putShare b_ShareWriter_putShare 6 none ∈ zT := zT_of (List.mem_of_getElem? (i := 310) (by decide +kernel)) rfl
theorem hd_ShareWriter_putShare : y_ShareWriter_putShare.cls ≠ "java/lang/invoke/MethodHandle" ∧ y_ShareWriter_putShare.cls ≠ "java/lang/invoke/VarHandle" ∧ (parseMethodDescriptor y_ShareWriter_putShare.desc).map (fun d => d.parameters.length) = some 2 := by decide +kernel
theorem lk_SC_95 : Cond.methodLink R_SC 95 y_ShareWriter_putShare ∈ zT := zT_of (List.mem_of_getElem? (i := 308) (by decide +kernel)) rfl
theorem st_ShareWriter_putShare : Cond.static y_ShareWriter_putShare ∈ zT := zT_of (List.mem_of_getElem? (i := 309) (by decide +kernel)) rfl
theorem d_SC_clear_0 : decode b_SC_clear 0 = .ok (.aload_n 0, 1) := by decide +kernel
theorem d_SC_clear_1 : decode b_SC_clear 1 = .ok (.getfield 19, 3) := by decide +kernel
theorem d_SC_clear_4 : decode b_SC_clear 4 = .ok (.invokevirtual 59, 3) := by decide +kernel
theorem d_SC_clear_7 : decode b_SC_clear 7 = .ok (.aload_n 0, 1) := by decide +kernel
theorem d_SC_clear_8 : decode b_SC_clear 8 = .ok (.iconst 0, 1) := by decide +kernel
theorem d_SC_clear_9 : decode b_SC_clear 9 = .ok (.putfield 55, 3) := by decide +kernel
theorem d_SC_clear_12 : decode b_SC_clear 12 = .ok (.aload_n 0, 1) := by decide +kernel
theorem d_SC_clear_13 : decode b_SC_clear 13 = .ok (.getfield 9, 3) := by decide +kernel
theorem d_SC_clear_16 : decode b_SC_clear 16 = .ok (.iconst 0, 1) := by decide +kernel
theorem d_SC_clear_17 : decode b_SC_clear 17 = .ok (.invokestatic 62, 3) := by decide +kernel
theorem d_SC_clear_20 : decode b_SC_clear 20 = .ok (.return_, 1) := by decide +kernel
theorem d_SC_countAll_0 : decode b_SC_countAll 0 = .ok (.aload_n 0, 1) := by decide +kernel
theorem d_SC_countAll_1 : decode b_SC_countAll 1 = .ok (.getfield 9, 3) := by decide +kernel
theorem d_SC_countAll_4 : decode b_SC_countAll 4 = .ok (.iconst 0, 1) := by decide +kernel
theorem d_SC_countAll_5 : decode b_SC_countAll 5 = .ok (.invokestatic 62, 3) := by decide +kernel
theorem d_SC_countAll_8 : decode b_SC_countAll 8 = .ok (.aload_n 0, 1) := by decide +kernel
theorem d_SC_countAll_9 : decode b_SC_countAll 9 = .ok (.getfield 55, 3) := by decide +kernel
theorem d_SC_countAll_12 : decode b_SC_countAll 12 = .ok (.istore_n 1, 1) := by decide +kernel
theorem d_SC_countAll_13 : decode b_SC_countAll 13 = .ok (.iload_n 1, 1) := by decide +kernel
theorem d_SC_countAll_14 : decode b_SC_countAll 14 = .ok (.aload_n 0, 1) := by decide +kernel
theorem d_SC_countAll_15 : decode b_SC_countAll 15 = .ok (.getfield 19, 3) := by decide +kernel
theorem d_SC_countAll_18 : decode b_SC_countAll 18 = .ok (.invokevirtual 43, 3) := by decide +kernel
theorem d_SC_countAll_21 : decode b_SC_countAll 21 = .ok (.if_icmp .ge 26, 3) := by decide +kernel
theorem d_SC_countAll_24 : decode b_SC_countAll 24 = .ok (.aload_n 0, 1) := by decide +kernel
theorem d_SC_countAll_25 : decode b_SC_countAll 25 = .ok (.getfield 9, 3) := by decide +kernel
theorem d_SC_countAll_28 : decode b_SC_countAll 28 = .ok (.aload_n 0, 1) := by decide +kernel
theorem d_SC_countAll_29 : decode b_SC_countAll 29 = .ok (.getfield 19, 3) := by decide +kernel
theorem d_SC_countAll_32 : decode b_SC_countAll 32 = .ok (.iload_n 1, 1) := by decide +kernel
theorem d_SC_countAll_33 : decode b_SC_countAll 33 = .ok (.invokevirtual 73, 3) := by decide +kernel
theorem d_SC_countAll_36 : decode b_SC_countAll 36 = .ok (.dup2, 1) := by decide +kernel
theorem d_SC_countAll_37 : decode b_SC_countAll 37 = .ok (.iaload, 1) := by decide +kernel
theorem d_SC_countAll_38 : decode b_SC_countAll 38 = .ok (.iconst 1, 1) := by decide +kernel
theorem d_SC_countAll_39 : decode b_SC_countAll 39 = .ok (.iadd, 1) := by decide +kernel
theorem d_SC_countAll_40 : decode b_SC_countAll 40 = .ok (.iastore, 1) := by decide +kernel
theorem d_SC_countAll_41 : decode b_SC_countAll 41 = .ok (.iinc 1 1, 3) := by decide +kernel
theorem d_SC_countAll_44 : decode b_SC_countAll 44 = .ok (.goto (-31), 3) := by decide +kernel
theorem d_SC_countAll_47 : decode b_SC_countAll 47 = .ok (.aload_n 0, 1) := by decide +kernel
theorem d_SC_countAll_48 : decode b_SC_countAll 48 = .ok (.getfield 19, 3) := by decide +kernel
theorem d_SC_countAll_51 : decode b_SC_countAll 51 = .ok (.invokevirtual 43, 3) := by decide +kernel
theorem d_SC_countAll_54 : decode b_SC_countAll 54 = .ok (.aload_n 0, 1) := by decide +kernel
theorem d_SC_countAll_55 : decode b_SC_countAll 55 = .ok (.getfield 55, 3) := by decide +kernel
theorem d_SC_countAll_58 : decode b_SC_countAll 58 = .ok (.isub, 1) := by decide +kernel
theorem d_SC_countAll_59 : decode b_SC_countAll 59 = .ok (.ireturn, 1) := by decide +kernel
theorem d_ShareWriter_putZeros_0 : decode b_ShareWriter_putZeros 0 = .ok (.iload_n 1, 1) := by decide +kernel
theorem d_ShareWriter_putZeros_1 : decode b_ShareWriter_putZeros 1 = .ok (.istore_n 3, 1) := by decide +kernel
theorem d_ShareWriter_putZeros_2 : decode b_ShareWriter_putZeros 2 = .ok (.iload_n 3, 1) := by decide +kernel
theorem d_ShareWriter_putZeros_3 : decode b_ShareWriter_putZeros 3 = .ok (.sipush 256, 3) := by decide +kernel
theorem d_ShareWriter_putZeros_6 : decode b_ShareWriter_putZeros 6 = .ok (.if_icmp .ge 17, 3) := by decide +kernel
theorem d_ShareWriter_putZeros_9 : decode b_ShareWriter_putZeros 9 = .ok (.aload_n 0, 1) := by decide +kernel
theorem d_ShareWriter_putZeros_10 : decode b_ShareWriter_putZeros 10 = .ok (.iload_n 3, 1) := by decide +kernel
theorem d_ShareWriter_putZeros_11 : decode b_ShareWriter_putZeros 11 = .ok (.invokevirtual 27, 3) := by decide +kernel
theorem d_ShareWriter_putZeros_14 : decode b_ShareWriter_putZeros 14 = .ok (.ifCond .ne 9, 3) := by decide +kernel
theorem d_ShareWriter_putZeros_17 : decode b_ShareWriter_putZeros 17 = .ok (.iinc 3 1, 3) := by decide +kernel
theorem d_ShareWriter_putZeros_20 : decode b_ShareWriter_putZeros 20 = .ok (.goto (-18), 3) := by decide +kernel
theorem d_ShareWriter_putZeros_23 : decode b_ShareWriter_putZeros 23 = .ok (.iload_n 3, 1) := by decide +kernel
theorem d_ShareWriter_putZeros_24 : decode b_ShareWriter_putZeros 24 = .ok (.iload_n 1, 1) := by decide +kernel
theorem d_ShareWriter_putZeros_25 : decode b_ShareWriter_putZeros 25 = .ok (.isub, 1) := by decide +kernel
theorem d_ShareWriter_putZeros_26 : decode b_ShareWriter_putZeros 26 = .ok (.istore 4, 2) := by decide +kernel
theorem d_ShareWriter_putZeros_28 : decode b_ShareWriter_putZeros 28 = .ok (.iload 4, 2) := by decide +kernel
theorem d_ShareWriter_putZeros_30 : decode b_ShareWriter_putZeros 30 = .ok (.iconst 3, 1) := by decide +kernel
theorem d_ShareWriter_putZeros_31 : decode b_ShareWriter_putZeros 31 = .ok (.if_icmp .lt 15, 3) := by decide +kernel
theorem d_ShareWriter_putZeros_34 : decode b_ShareWriter_putZeros 34 = .ok (.aload_n 2, 1) := by decide +kernel
theorem d_ShareWriter_putZeros_35 : decode b_ShareWriter_putZeros 35 = .ok (.iconst 3, 1) := by decide +kernel
theorem d_ShareWriter_putZeros_36 : decode b_ShareWriter_putZeros 36 = .ok (.iconst 2, 1) := by decide +kernel
theorem d_ShareWriter_putZeros_37 : decode b_ShareWriter_putZeros 37 = .ok (.invokevirtual 20, 3) := by decide +kernel
theorem d_ShareWriter_putZeros_40 : decode b_ShareWriter_putZeros 40 = .ok (.iinc 4 (-3), 3) := by decide +kernel
theorem d_ShareWriter_putZeros_43 : decode b_ShareWriter_putZeros 43 = .ok (.goto (-15), 3) := by decide +kernel
theorem d_ShareWriter_putZeros_46 : decode b_ShareWriter_putZeros 46 = .ok (.aload_n 2, 1) := by decide +kernel
theorem d_ShareWriter_putZeros_47 : decode b_ShareWriter_putZeros 47 = .ok (.iload 4, 2) := by decide +kernel
theorem d_ShareWriter_putZeros_49 : decode b_ShareWriter_putZeros 49 = .ok (.iconst 2, 1) := by decide +kernel
theorem d_ShareWriter_putZeros_50 : decode b_ShareWriter_putZeros 50 = .ok (.invokevirtual 20, 3) := by decide +kernel
theorem d_ShareWriter_putZeros_53 : decode b_ShareWriter_putZeros 53 = .ok (.iload_n 3, 1) := by decide +kernel
theorem d_ShareWriter_putZeros_54 : decode b_ShareWriter_putZeros 54 = .ok (.ireturn, 1) := by decide +kernel
theorem d_ShareWriter_putShare_0 : decode b_ShareWriter_putShare 0 = .ok (.aload_n 1, 1) := by decide +kernel
theorem d_ShareWriter_putShare_1 : decode b_ShareWriter_putShare 1 = .ok (.invokevirtual 9, 3) := by decide +kernel
theorem d_ShareWriter_putShare_4 : decode b_ShareWriter_putShare 4 = .ok (.aload_n 1, 1) := by decide +kernel
theorem d_ShareWriter_putShare_5 : decode b_ShareWriter_putShare 5 = .ok (.aload_n 0, 1) := by decide +kernel
theorem d_ShareWriter_putShare_6 : decode b_ShareWriter_putShare 6 = .ok (.invokevirtual 14, 3) := by decide +kernel
theorem d_ShareWriter_putShare_9 : decode b_ShareWriter_putShare 9 = .ok (.iconst 5, 1) := by decide +kernel
theorem d_ShareWriter_putShare_10 : decode b_ShareWriter_putShare 10 = .ok (.isub, 1) := by decide +kernel
theorem d_ShareWriter_putShare_11 : decode b_ShareWriter_putShare 11 = .ok (.iconst 4, 1) := by decide +kernel
theorem d_ShareWriter_putShare_12 : decode b_ShareWriter_putShare 12 = .ok (.invokevirtual 20, 3) := by decide +kernel
theorem d_ShareWriter_putShare_15 : decode b_ShareWriter_putShare 15 = .ok (.aload_n 0, 1) := by decide +kernel
theorem d_ShareWriter_putShare_16 : decode b_ShareWriter_putShare 16 = .ok (.invokevirtual 24, 3) := by decide +kernel
theorem d_ShareWriter_putShare_19 : decode b_ShareWriter_putShare 19 = .ok (.istore_n 2, 1) := by decide +kernel
theorem d_ShareWriter_putShare_20 : decode b_ShareWriter_putShare 20 = .ok (.iconst 0, 1) := by decide +kernel
theorem d_ShareWriter_putShare_21 : decode b_ShareWriter_putShare 21 = .ok (.istore_n 3, 1) := by decide +kernel
theorem d_ShareWriter_putShare_22 : decode b_ShareWriter_putShare 22 = .ok (.iconst 0, 1) := by decide +kernel
theorem d_ShareWriter_putShare_23 : decode b_ShareWriter_putShare 23 = .ok (.istore 4, 2) := by decide +kernel
theorem d_ShareWriter_putShare_25 : decode b_ShareWriter_putShare 25 = .ok (.iload 4, 2) := by decide +kernel
theorem d_ShareWriter_putShare_27 : decode b_ShareWriter_putShare 27 = .ok (.sipush 256, 3) := by decide +kernel
theorem d_ShareWriter_putShare_30 : decode b_ShareWriter_putShare 30 = .ok (.if_icmp .ge 66, 3) := by decide +kernel
theorem d_ShareWriter_putShare_33 : decode b_ShareWriter_putShare 33 = .ok (.iload_n 2, 1) := by decide +kernel
theorem d_ShareWriter_putShare_34 : decode b_ShareWriter_putShare 34 = .ok (.ifCond .le 62, 3) := by decide +kernel
theorem d_ShareWriter_putShare_37 : decode b_ShareWriter_putShare 37 = .ok (.iload 4, 2) := by decide +kernel
theorem d_ShareWriter_putShare_39 : decode b_ShareWriter_putShare 39 = .ok (.iload_n 3, 1) := by decide +kernel
theorem d_ShareWriter_putShare_40 : decode b_ShareWriter_putShare 40 = .ok (.if_icmp .ne 50, 3) := by decide +kernel
theorem d_ShareWriter_putShare_43 : decode b_ShareWriter_putShare 43 = .ok (.aload_n 0, 1) := by decide +kernel
theorem d_ShareWriter_putShare_44 : decode b_ShareWriter_putShare 44 = .ok (.iload 4, 2) := by decide +kernel
theorem d_ShareWriter_putShare_46 : decode b_ShareWriter_putShare 46 = .ok (.invokevirtual 27, 3) := by decide +kernel
theorem d_ShareWriter_putShare_49 : decode b_ShareWriter_putShare 49 = .ok (.istore 5, 2) := by decide +kernel
theorem d_ShareWriter_putShare_51 : decode b_ShareWriter_putShare 51 = .ok (.iload 5, 2) := by decide +kernel
theorem d_ShareWriter_putShare_53 : decode b_ShareWriter_putShare 53 = .ok (.iconst 1, 1) := by decide +kernel
theorem d_ShareWriter_putShare_54 : decode b_ShareWriter_putShare 54 = .ok (.iadd, 1) := by decide +kernel
theorem d_ShareWriter_putShare_55 : decode b_ShareWriter_putShare 55 = .ok (.iload_n 2, 1) := by decide +kernel
theorem d_ShareWriter_putShare_56 : decode b_ShareWriter_putShare 56 = .ok (.aload_n 1, 1) := by decide +kernel
theorem d_ShareWriter_putShare_57 : decode b_ShareWriter_putShare 57 = .ok (.invokestatic 31, 3) := by decide +kernel
theorem d_ShareWriter_putShare_60 : decode b_ShareWriter_putShare 60 = .ok (.iload_n 2, 1) := by decide +kernel
theorem d_ShareWriter_putShare_61 : decode b_ShareWriter_putShare 61 = .ok (.iload 5, 2) := by decide +kernel
theorem d_ShareWriter_putShare_63 : decode b_ShareWriter_putShare 63 = .ok (.invokestatic 37, 3) := by decide +kernel
theorem d_ShareWriter_putShare_66 : decode b_ShareWriter_putShare 66 = .ok (.isub, 1) := by decide +kernel
theorem d_ShareWriter_putShare_67 : decode b_ShareWriter_putShare 67 = .ok (.istore_n 2, 1) := by decide +kernel
theorem d_ShareWriter_putShare_68 : decode b_ShareWriter_putShare 68 = .ok (.iload 5, 2) := by decide +kernel
theorem d_ShareWriter_putShare_70 : decode b_ShareWriter_putShare 70 = .ok (.ifCond .ne 15, 3) := by decide +kernel
theorem d_ShareWriter_putShare_73 : decode b_ShareWriter_putShare 73 = .ok (.aload_n 0, 1) := by decide +kernel
theorem d_ShareWriter_putShare_74 : decode b_ShareWriter_putShare 74 = .ok (.iload 4, 2) := by decide +kernel
theorem d_ShareWriter_putShare_76 : decode b_ShareWriter_putShare 76 = .ok (.iconst 1, 1) := by decide +kernel
theorem d_ShareWriter_putShare_77 : decode b_ShareWriter_putShare 77 = .ok (.iadd, 1) := by decide +kernel
theorem d_ShareWriter_putShare_78 : decode b_ShareWriter_putShare 78 = .ok (.aload_n 1, 1) := by decide +kernel
theorem d_ShareWriter_putShare_79 : decode b_ShareWriter_putShare 79 = .ok (.invokestatic 40, 3) := by decide +kernel
theorem d_ShareWriter_putShare_82 : decode b_ShareWriter_putShare 82 = .ok (.goto 7, 3) := by decide +kernel
theorem d_ShareWriter_putShare_85 : decode b_ShareWriter_putShare 85 = .ok (.iload 4, 2) := by decide +kernel
theorem d_ShareWriter_putShare_87 : decode b_ShareWriter_putShare 87 = .ok (.iconst 1, 1) := by decide +kernel
theorem d_ShareWriter_putShare_88 : decode b_ShareWriter_putShare 88 = .ok (.iadd, 1) := by decide +kernel
theorem d_ShareWriter_putShare_89 : decode b_ShareWriter_putShare 89 = .ok (.istore_n 3, 1) := by decide +kernel
theorem d_ShareWriter_putShare_90 : decode b_ShareWriter_putShare 90 = .ok (.iinc 4 1, 3) := by decide +kernel
theorem d_ShareWriter_putShare_93 : decode b_ShareWriter_putShare 93 = .ok (.goto (-68), 3) := by decide +kernel
theorem d_ShareWriter_putShare_96 : decode b_ShareWriter_putShare 96 = .ok (.aload_n 1, 1) := by decide +kernel
theorem d_ShareWriter_putShare_97 : decode b_ShareWriter_putShare 97 = .ok (.invokevirtual 44, 3) := by decide +kernel
theorem d_ShareWriter_putShare_100 : decode b_ShareWriter_putShare 100 = .ok (.return_, 1) := by decide +kernel
theorem d_SC_describe_0 : decode b_SC_describe 0 = .ok (.aload_n 0, 1) := by decide +kernel
theorem d_SC_describe_1 : decode b_SC_describe 1 = .ok (.getfield 26, 3) := by decide +kernel
theorem d_SC_describe_4 : decode b_SC_describe 4 = .ok (.invokevirtual 91, 3) := by decide +kernel
theorem d_SC_describe_7 : decode b_SC_describe 7 = .ok (.ifCond .ne 5, 3) := by decide +kernel
theorem d_SC_describe_10 : decode b_SC_describe 10 = .ok (.iconst (-1), 1) := by decide +kernel
theorem d_SC_describe_11 : decode b_SC_describe 11 = .ok (.ireturn, 1) := by decide +kernel
theorem d_SC_describe_12 : decode b_SC_describe 12 = .ok (.aload_n 0, 1) := by decide +kernel
theorem d_SC_describe_13 : decode b_SC_describe 13 = .ok (.getfield 26, 3) := by decide +kernel
theorem d_SC_describe_16 : decode b_SC_describe 16 = .ok (.aload_n 0, 1) := by decide +kernel
theorem d_SC_describe_17 : decode b_SC_describe 17 = .ok (.getfield 37, 3) := by decide +kernel
theorem d_SC_describe_20 : decode b_SC_describe 20 = .ok (.invokestatic 95, 3) := by decide +kernel
theorem d_SC_describe_23 : decode b_SC_describe 23 = .ok (.aload_n 0, 1) := by decide +kernel
theorem d_SC_describe_24 : decode b_SC_describe 24 = .ok (.getfield 37, 3) := by decide +kernel
theorem d_SC_describe_27 : decode b_SC_describe 27 = .ok (.invokevirtual 43, 3) := by decide +kernel
theorem d_SC_describe_30 : decode b_SC_describe 30 = .ok (.ireturn, 1) := by decide +kernel
abbrev rm_SC_clear : Room := { frames := 1, cells := 0, slots := 0, locals := 23 }
set_option maxHeartbeats 4000000 in
set_option maxRecDepth 100000 in
theorem c_SC_clear (l : Launch) (D : va_G) (cI cB cZ : ClassId) (sz : Nat) (g : Nat) (qc : Nat) (qp : Nat) (qi : Nat) (qs : Nat) (qr : Nat) (qo : Nat) (qx : Nat) (ps : Int) (bi : Nat) (Li : Int) (hdi : Int) (hni : Int) (ovi : Int) (tsi : Int) (tbi : Int) (fc : Nat → Int) : Met l y_SC_clear (.code y_SC_clear b_SC_clear 1 none :: zT) rm_SC_clear (zPc D classes (TY cI cB cZ) [(g, .inr (3, [.ref qc, .ref qp, .ref qi, .ref qs, .ref qr, .ref qo, .ref qx, .int (iZ ps)])), (qi, .inr (0, [.ref bi, .int (iZ Li), .int (iZ hdi), .int (iZ hni), .int (iZ ovi), .int (iZ tsi), .int (iZ tbi)])), (qc, .inl (cI, 256, .inl (zA fc)))] sz [.ref g]) (zFv (S := Nat → Int) D classes (fun u => ∀ k, k < 256 → u k = 0) (fun u => [(g, .inr (3, [.ref qc, .ref qp, .ref qi, .ref qs, .ref qr, .ref qo, .ref qx, .int (iZ 0)])), (qi, .inr (0, [.ref bi, .int (iZ 0), .int (iZ 0), .int (iZ 0), .int (iZ 0), .int (iZ tsi), .int (iZ tbi)])), (qc, .inl (cI, 256, .inl (zA u)))]) (va_A [(g, .inr (3, [.ref qc, .ref qp, .ref qi, .ref qs, .ref qr, .ref qo, .ref qx, .int (iZ ps)])), (qi, .inr (0, [.ref bi, .int (iZ Li), .int (iZ hdi), .int (iZ hni), .int (iZ ovi), .int (iZ tsi), .int (iZ tbi)])), (qc, .inl (cI, 256, .inl (zA fc)))] sz)) 0 0 (va_A [(g, .inr (3, [.ref qc, .ref qp, .ref qi, .ref qs, .ref qr, .ref qo, .ref qx, .int (iZ ps)])), (qi, .inr (0, [.ref bi, .int (iZ Li), .int (iZ hdi), .int (iZ hni), .int (iZ ovi), .int (iZ tsi), .int (iZ tbi)])), (qc, .inl (cI, 256, .inl (zA fc)))] sz) := by
  refine z_ofv (by decide) (Nat.le_of_ble_eq_true rfl) rfl ?_
  intro p e s m args below meth c A Q E jmn jA jK jret H locs jP jD jS ls jl
  obtain ⟨jx, jb, jrt, jml, jown, jts, jlk⟩ := E
  have jown : s.vm.findClass R_SC = some m.cls := jown
  have jl : lv_has ls 1 [(0, .ref g)] := jl
  refine lv_aload_n jx jb d_SC_clear_0 rfl (lv_at jl 0 rfl) ?_
  refine va_get (D := D) (ci := 3) (v := .ref qi) (C := R_SC) (T := F_SC) (N := 8) jx jb jts i_SC jown jK.1 jP 0 rfl rfl 2 (by decide) (jts _ fl_SC_19) (fun _ h9 => h9) rfl d_SC_clear_1 ?_
  refine z_backv (wr := [(g, .inr (3, [.ref qc, .ref qp, .ref qi, .ref qs, .ref qr, .ref qo, .ref qx, .int (iZ ps)])), (qc, .inl (cI, 256, .inl (zA fc)))]) jP jD jS jA [1] [0, 2] rfl rfl (by decide) (by decide) (va_runV (As := []) (rest := []) ⟨jx, jb, jml, jown, jts⟩ (c_Row_empty l D cI cB cZ H.size qi bi Li hdi hni ovi tsi tbi) (zc_V 0 jts cd_Row_empty lk_SC_59 im_Row_empty se_Row_empty in_Row hd_Row_empty ⟨Nat.le_of_ble_eq_true rfl, Nat.le_of_ble_eq_true rfl⟩ rfl rfl) (z_preV jK jP jD [1] (by decide) rfl rfl rfl rfl) rfl rfl jl.1 rfl (lv_room (Nat.le_of_ble_eq_true rfl)) d_SC_clear_4 ⟨Nat.le_of_ble_eq_true rfl, Nat.le_of_ble_eq_true rfl⟩) (fun u4 H locs hu4 jP jD jS => ?_)
  have jP : va_P D classes [(g, .inr (3, [.ref qc, .ref qp, .ref qi, .ref qs, .ref qr, .ref qo, .ref qx, .int (iZ ps)])), (qi, .inr (0, [.ref bi, .int (iZ 0), .int (iZ 0), .int (iZ 0), .int (iZ 0), .int (iZ tsi), .int (iZ tbi)])), (qc, .inl (cI, 256, .inl (zA fc)))] H := jP.sub [0, 2, 1] rfl
  have jD : va_D A [(g, .inr (3, [.ref qc, .ref qp, .ref qi, .ref qs, .ref qr, .ref qo, .ref qx, .int (iZ ps)])), (qi, .inr (0, [.ref bi, .int (iZ 0), .int (iZ 0), .int (iZ 0), .int (iZ 0), .int (iZ tsi), .int (iZ tbi)])), (qc, .inl (cI, 256, .inl (zA fc)))] := jD.sub [0, 2, 1] (by decide) rfl
  refine lv_aload_n jx jb d_SC_clear_7 rfl (lv_at jl 0 rfl) ?_
  refine lv_iconst (v := iZ 0) jx jb d_SC_clear_8 rfl ?_
  refine va_put (D := D) (ci := 3) (v := .int (iZ 0)) (ty := .int) (C := R_SC) (T := F_SC) (N := 8) jx jb jts i_SC t_SC t_SC_ok n_SC jown jK.1 jP jD jS 0 rfl rfl 7 (by decide) (jts _ fl_SC_55) (fun _ h9 => h9) rfl (by decide +kernel) rfl rfl (Nat.le_of_ble_eq_true rfl) d_SC_clear_9 (fun H locs jP jD jS => ?_)
  have jP : va_P D classes [(g, .inr (3, [.ref qc, .ref qp, .ref qi, .ref qs, .ref qr, .ref qo, .ref qx, .int (iZ 0)])), (qi, .inr (0, [.ref bi, .int (iZ 0), .int (iZ 0), .int (iZ 0), .int (iZ 0), .int (iZ tsi), .int (iZ tbi)])), (qc, .inl (cI, 256, .inl (zA fc)))] H := jP
  have jD : va_D A [(g, .inr (3, [.ref qc, .ref qp, .ref qi, .ref qs, .ref qr, .ref qo, .ref qx, .int (iZ 0)])), (qi, .inr (0, [.ref bi, .int (iZ 0), .int (iZ 0), .int (iZ 0), .int (iZ 0), .int (iZ tsi), .int (iZ tbi)])), (qc, .inl (cI, 256, .inl (zA fc)))] := jD
  refine lv_aload_n jx jb d_SC_clear_12 rfl (lv_at jl 0 rfl) ?_
  refine va_get (D := D) (ci := 3) (v := .ref qc) (C := R_SC) (T := F_SC) (N := 8) jx jb jts i_SC jown jK.1 jP 0 rfl rfl 0 (by decide) (jts _ fl_SC_9) (fun _ h9 => h9) rfl d_SC_clear_13 ?_
  refine lv_iconst (v := iZ 0) jx jb d_SC_clear_16 rfl ?_
  refine z_backv (wr := [(g, .inr (3, [.ref qc, .ref qp, .ref qi, .ref qs, .ref qr, .ref qo, .ref qx, .int (iZ 0)])), (qi, .inr (0, [.ref bi, .int (iZ 0), .int (iZ 0), .int (iZ 0), .int (iZ 0), .int (iZ tsi), .int (iZ tbi)]))]) jP jD jS jA [2] [0, 1] rfl rfl (by decide) (by decide) (va_runS (As := [.ref qc, .int (iZ 0)]) (rest := []) ⟨jx, jb, jml, jown, jts⟩ (c_fill l D cI cB cZ H.size qc fc 0 (by first | assumption | omega)) (zc_S 2 jts cd_Arrays_fill lk_SC_62 st_Arrays_fill in_Arrays hd_Arrays_fill ⟨Nat.le_of_ble_eq_true rfl, Nat.le_of_ble_eq_true rfl⟩ rfl rfl) (z_preS jK jP jD [2] (by decide) rfl rfl) rfl rfl jl.1 rfl (lv_room (Nat.le_of_ble_eq_true rfl)) d_SC_clear_17 ⟨Nat.le_of_ble_eq_true rfl, Nat.le_of_ble_eq_true rfl⟩) (fun u17 H locs hu17 jP jD jS => ?_)
  have jP : va_P D classes [(g, .inr (3, [.ref qc, .ref qp, .ref qi, .ref qs, .ref qr, .ref qo, .ref qx, .int (iZ 0)])), (qi, .inr (0, [.ref bi, .int (iZ 0), .int (iZ 0), .int (iZ 0), .int (iZ 0), .int (iZ tsi), .int (iZ tbi)])), (qc, .inl (cI, 256, .inl (zA (fun k => if k < 256 then 0 else fc k))))] H := jP.sub [0, 1, 2] rfl
  have jD : va_D A [(g, .inr (3, [.ref qc, .ref qp, .ref qi, .ref qs, .ref qr, .ref qo, .ref qx, .int (iZ 0)])), (qi, .inr (0, [.ref bi, .int (iZ 0), .int (iZ 0), .int (iZ 0), .int (iZ 0), .int (iZ tsi), .int (iZ tbi)])), (qc, .inl (cI, 256, .inl (zA (fun k => if k < 256 then 0 else fc k))))] := jD.sub [0, 1, 2] (by decide) rfl
  exact jret _ _ ((fun k => if k < 256 then 0 else fc k)) _ _ (fun k h => if_pos h) (jP.sub [0, 1, 2] rfl) (jD.sub [0, 1, 2] (by decide) rfl) jS d_SC_clear_20
abbrev rm_SC_countAll : Room := { frames := 1, cells := 0, slots := 0, locals := 23 }
set_option maxHeartbeats 4000000 in
set_option maxRecDepth 100000 in
theorem c_SC_countAll (l : Launch) (D : va_G) (cI cB cZ : ClassId) (sz : Nat) (g : Nat) (qc : Nat) (qp : Nat) (qi : Nat) (qs : Nat) (qr : Nat) (qo : Nat) (qx : Nat) (ps : Int) (bi : Nat) (Li : Int) (hdi : Int) (hni : Int) (ovi : Int) (tsi : Int) (tbi : Int) (fi : Nat → Int) (fc : Nat → Int) (hLi : 0 ≤ Li ∧ Li ≤ 6000) (hps : 0 ≤ ps ∧ ps ≤ Li) : Met l y_SC_countAll (.code y_SC_countAll b_SC_countAll 2 (some .int) :: zT) rm_SC_countAll (zPc D classes (TY cI cB cZ) [(g, .inr (3, [.ref qc, .ref qp, .ref qi, .ref qs, .ref qr, .ref qo, .ref qx, .int (iZ ps)])), (qi, .inr (0, [.ref bi, .int (iZ Li), .int (iZ hdi), .int (iZ hni), .int (iZ ovi), .int (iZ tsi), .int (iZ tbi)])), (bi, .inl (cB, 6000, .inl (zA fi))), (qc, .inl (cI, 256, .inl (zA fc)))] sz [.ref g]) (zFi (S := Nat → Int) D classes (fun z u => z = Li - ps ∧ ∀ k, k < 256 → u k = cnB (fun j => fi j % 256) ps.toNat (Li - ps).toNat k) (fun u => [(g, .inr (3, [.ref qc, .ref qp, .ref qi, .ref qs, .ref qr, .ref qo, .ref qx, .int (iZ ps)])), (qi, .inr (0, [.ref bi, .int (iZ Li), .int (iZ hdi), .int (iZ hni), .int (iZ ovi), .int (iZ tsi), .int (iZ tbi)])), (bi, .inl (cB, 6000, .inl (zA fi))), (qc, .inl (cI, 256, .inl (zA u)))]) (va_A [(g, .inr (3, [.ref qc, .ref qp, .ref qi, .ref qs, .ref qr, .ref qo, .ref qx, .int (iZ ps)])), (qi, .inr (0, [.ref bi, .int (iZ Li), .int (iZ hdi), .int (iZ hni), .int (iZ ovi), .int (iZ tsi), .int (iZ tbi)])), (bi, .inl (cB, 6000, .inl (zA fi))), (qc, .inl (cI, 256, .inl (zA fc)))] sz)) 0 0 (va_A [(g, .inr (3, [.ref qc, .ref qp, .ref qi, .ref qs, .ref qr, .ref qo, .ref qx, .int (iZ ps)])), (qi, .inr (0, [.ref bi, .int (iZ Li), .int (iZ hdi), .int (iZ hni), .int (iZ ovi), .int (iZ tsi), .int (iZ tbi)])), (bi, .inl (cB, 6000, .inl (zA fi))), (qc, .inl (cI, 256, .inl (zA fc)))] sz) := by
  refine z_ofi (by decide) (Nat.le_of_ble_eq_true rfl) (Or.inl rfl) ?_
  intro p e s m args below meth c A Q E jA jK jret H locs jP jD jS ls jl
  obtain ⟨jx, jb, jrt, jml, jown, jts, jlk⟩ := E
  have jown : s.vm.findClass R_SC = some m.cls := jown
  have jl : lv_has ls 2 [(0, .ref g)] := jl
  refine lv_aload_n jx jb d_SC_countAll_0 rfl (lv_at jl 0 rfl) ?_
  refine va_get (D := D) (ci := 3) (v := .ref qc) (C := R_SC) (T := F_SC) (N := 8) jx jb jts i_SC jown jK.1 jP 0 rfl rfl 0 (by decide) (jts _ fl_SC_9) (fun _ h9 => h9) rfl d_SC_countAll_1 ?_
  refine lv_iconst (v := iZ 0) jx jb d_SC_countAll_4 rfl ?_
  refine z_backv (wr := [(g, .inr (3, [.ref qc, .ref qp, .ref qi, .ref qs, .ref qr, .ref qo, .ref qx, .int (iZ ps)])), (qi, .inr (0, [.ref bi, .int (iZ Li), .int (iZ hdi), .int (iZ hni), .int (iZ ovi), .int (iZ tsi), .int (iZ tbi)])), (bi, .inl (cB, 6000, .inl (zA fi)))]) jP jD jS jA [3] [0, 1, 2] rfl rfl (by decide) (by decide) (va_runS (As := [.ref qc, .int (iZ 0)]) (rest := []) ⟨jx, jb, jml, jown, jts⟩ (c_fill l D cI cB cZ H.size qc fc 0 (by first | assumption | omega)) (zc_S 2 jts cd_Arrays_fill lk_SC_62 st_Arrays_fill in_Arrays hd_Arrays_fill ⟨Nat.le_of_ble_eq_true rfl, Nat.le_of_ble_eq_true rfl⟩ rfl rfl) (z_preS jK jP jD [3] (by decide) rfl rfl) rfl rfl jl.1 rfl (lv_room (Nat.le_of_ble_eq_true rfl)) d_SC_countAll_5 ⟨Nat.le_of_ble_eq_true rfl, Nat.le_of_ble_eq_true rfl⟩) (fun u5 H locs hu5 jP jD jS => ?_)
  have jP : va_P D classes [(g, .inr (3, [.ref qc, .ref qp, .ref qi, .ref qs, .ref qr, .ref qo, .ref qx, .int (iZ ps)])), (qi, .inr (0, [.ref bi, .int (iZ Li), .int (iZ hdi), .int (iZ hni), .int (iZ ovi), .int (iZ tsi), .int (iZ tbi)])), (bi, .inl (cB, 6000, .inl (zA fi))), (qc, .inl (cI, 256, .inl (zA (fun k => if k < 256 then 0 else fc k))))] H := jP.sub [0, 1, 2, 3] rfl
  have jD : va_D A [(g, .inr (3, [.ref qc, .ref qp, .ref qi, .ref qs, .ref qr, .ref qo, .ref qx, .int (iZ ps)])), (qi, .inr (0, [.ref bi, .int (iZ Li), .int (iZ hdi), .int (iZ hni), .int (iZ ovi), .int (iZ tsi), .int (iZ tbi)])), (bi, .inl (cB, 6000, .inl (zA fi))), (qc, .inl (cI, 256, .inl (zA (fun k => if k < 256 then 0 else fc k))))] := jD.sub [0, 1, 2, 3] (by decide) rfl
  refine lv_aload_n jx jb d_SC_countAll_8 rfl (lv_at jl 0 rfl) ?_
  refine va_get (D := D) (ci := 3) (v := .int (iZ ps)) (C := R_SC) (T := F_SC) (N := 8) jx jb jts i_SC jown jK.1 jP 0 rfl rfl 7 (by decide) (jts _ fl_SC_55) (fun _ h9 => h9) rfl d_SC_countAll_9 ?_
  refine z_top (ps + ((0 : Nat) : Int)) (by omega) ?_
  refine lv_istore_n (lv' := [(1, .int (iZ (ps + ((0 : Nat) : Int)))), (0, .ref g)]) jx jb d_SC_countAll_12 rfl jl (by decide) rfl (fun ls jl => ?_)
  have hloop13 : ∀ (nF : Nat) (n : Nat) (x3 : Nat → Int), (Li - ps).toNat - n < nF → ((n : Int) ≤ Li - ps) → (∀ s, s < 256 → x3 s = cnB (fun j => fi j % 256) ps.toNat n s) → ∀ (H : Heap) (locs : List Loc), va_P D classes [(g, .inr (3, [.ref qc, .ref qp, .ref qi, .ref qs, .ref qr, .ref qo, .ref qx, .int (iZ ps)])), (qi, .inr (0, [.ref bi, .int (iZ Li), .int (iZ hdi), .int (iZ hni), .int (iZ ovi), .int (iZ tsi), .int (iZ tbi)])), (bi, .inl (cB, 6000, .inl (zA fi))), (qc, .inl (cI, 256, .inl (zA x3)))] H → va_D A [(g, .inr (3, [.ref qc, .ref qp, .ref qi, .ref qs, .ref qr, .ref qo, .ref qx, .int (iZ ps)])), (qi, .inr (0, [.ref bi, .int (iZ Li), .int (iZ hdi), .int (iZ hni), .int (iZ ovi), .int (iZ tsi), .int (iZ tbi)])), (bi, .inl (cB, 6000, .inl (zA fi))), (qc, .inl (cI, 256, .inl (zA x3)))] → va_S A s.heap H locs → ∀ ls : Array Slot, lv_has ls 2 [(0, .ref g), (1, .int (iZ (ps + (n : Int))))] → W p l e rm_SC_countAll s m args below meth c H locs 0 0 Q (F0 m 13 ls []) := by
    intro nF
    induction nF with
    | zero => intro n x3 hm; exact absurd hm (Nat.not_lt_zero _)
    | succ nF ih13 =>
      intro n x3 hm hn h3 H locs jP jD jS ls jl
      refine lv_iload_n jx jb d_SC_countAll_13 rfl (lv_at jl 1 rfl) ?_
      refine lv_aload_n jx jb d_SC_countAll_14 rfl (lv_at jl 0 rfl) ?_
      refine va_get (D := D) (ci := 3) (v := .ref qi) (C := R_SC) (T := F_SC) (N := 8) jx jb jts i_SC jown jK.1 jP 0 rfl rfl 2 (by decide) (jts _ fl_SC_19) (fun _ h9 => h9) rfl d_SC_countAll_15 ?_
      refine z_backe (va_runV (As := []) (rest := [.int (iZ (ps + (n : Int)))]) ⟨jx, jb, jml, jown, jts⟩ (c_Row_length l D cI cB cZ qi bi Li hdi hni ovi tsi tbi) (zc_V 0 jts cd_Row_length lk_SC_43 im_Row_length se_Row_length in_Row hd_Row_length ⟨Nat.le_of_ble_eq_true rfl, Nat.le_of_ble_eq_true rfl⟩ rfl rfl) (z_preVR jK jP [1] rfl rfl rfl) rfl rfl jl.1 rfl (lv_room (Nat.le_of_ble_eq_true rfl)) d_SC_countAll_18 ⟨Nat.le_of_ble_eq_true rfl, Nat.le_of_ble_eq_true rfl⟩) ?_
      refine z_icmp_ge (tgt := 47) jx jb d_SC_countAll_21 (by decide) ⟨⟨by omega, by omega⟩, ⟨by omega, by omega⟩⟩ (fun hc21 => ?_) (fun hc21 => ?_)
      ·
        refine lv_aload_n jx jb d_SC_countAll_47 rfl (lv_at jl 0 rfl) ?_
        refine va_get (D := D) (ci := 3) (v := .ref qi) (C := R_SC) (T := F_SC) (N := 8) jx jb jts i_SC jown jK.1 jP 0 rfl rfl 2 (by decide) (jts _ fl_SC_19) (fun _ h9 => h9) rfl d_SC_countAll_48 ?_
        refine z_backe (va_runV (As := []) (rest := []) ⟨jx, jb, jml, jown, jts⟩ (c_Row_length l D cI cB cZ qi bi Li hdi hni ovi tsi tbi) (zc_V 0 jts cd_Row_length lk_SC_43 im_Row_length se_Row_length in_Row hd_Row_length ⟨Nat.le_of_ble_eq_true rfl, Nat.le_of_ble_eq_true rfl⟩ rfl rfl) (z_preVR jK jP [1] rfl rfl rfl) rfl rfl jl.1 rfl (lv_room (Nat.le_of_ble_eq_true rfl)) d_SC_countAll_51 ⟨Nat.le_of_ble_eq_true rfl, Nat.le_of_ble_eq_true rfl⟩) ?_
        refine lv_aload_n jx jb d_SC_countAll_54 rfl (lv_at jl 0 rfl) ?_
        refine va_get (D := D) (ci := 3) (v := .int (iZ ps)) (C := R_SC) (T := F_SC) (N := 8) jx jb jts i_SC jown jK.1 jP 0 rfl rfl 7 (by decide) (jts _ fl_SC_55) (fun _ h9 => h9) rfl d_SC_countAll_55 ?_
        refine z_isub jx jb d_SC_countAll_58 ?_
        exact jret _ _ _ (x3) _ _ (Or.inl rfl) (⟨rfl, fun k h => by rw [show (Li - ps).toNat = n by omega]; exact h3 k h⟩) (jP.sub [0, 1, 2, 3] rfl) (jD.sub [0, 1, 2, 3] (by decide) rfl) jS d_SC_countAll_59
      ·
        refine lv_aload_n jx jb d_SC_countAll_24 rfl (lv_at jl 0 rfl) ?_
        refine va_get (D := D) (ci := 3) (v := .ref qc) (C := R_SC) (T := F_SC) (N := 8) jx jb jts i_SC jown jK.1 jP 0 rfl rfl 0 (by decide) (jts _ fl_SC_9) (fun _ h9 => h9) rfl d_SC_countAll_25 ?_
        refine lv_aload_n jx jb d_SC_countAll_28 rfl (lv_at jl 0 rfl) ?_
        refine va_get (D := D) (ci := 3) (v := .ref qi) (C := R_SC) (T := F_SC) (N := 8) jx jb jts i_SC jown jK.1 jP 0 rfl rfl 2 (by decide) (jts _ fl_SC_19) (fun _ h9 => h9) rfl d_SC_countAll_29 ?_
        refine lv_iload_n jx jb d_SC_countAll_32 rfl (lv_at jl 1 rfl) ?_
        refine z_backe (va_runV (As := [.int (iZ (ps + (n : Int)))]) (rest := [.ref qc]) ⟨jx, jb, jml, jown, jts⟩ (c_Row_byteOrZero l D cI cB cZ qi bi Li hdi hni ovi tsi tbi fi (ps + (n : Int)) (by first | assumption | omega) (by first | assumption | omega)) (zc_V 1 jts cd_Row_byteOrZero lk_SC_73 im_Row_byteOrZero se_Row_byteOrZero in_Row hd_Row_byteOrZero ⟨Nat.le_of_ble_eq_true rfl, Nat.le_of_ble_eq_true rfl⟩ rfl rfl) (z_preVR jK jP [1, 2] rfl rfl rfl) rfl rfl jl.1 rfl (lv_room (Nat.le_of_ble_eq_true rfl)) d_SC_countAll_33 ⟨Nat.le_of_ble_eq_true rfl, Nat.le_of_ble_eq_true rfl⟩) ?_
        refine z_top (fi (ps.toNat + n) % 256) (rb8_in (by omega) (by omega)) ?_
        refine lv_dup2_11 jx jb d_SC_countAll_36 rfl rfl ?_
        refine z_iald jx jb jK.1 jP 3 0 rfl rfl ((fi (ps.toNat + n) % 256).toNat) (by omega) d_SC_countAll_37 ?_
        refine lv_iconst (v := iZ 1) jx jb d_SC_countAll_38 rfl ?_
        refine z_iadd jx jb d_SC_countAll_39 ?_
        refine z_iast jx jb jK.1 jP jD jS 3 0 rfl rfl ((fi (ps.toNat + n) % 256).toNat) (by omega) d_SC_countAll_40 (fun H locs jP jD jS => ?_)
        have jP : va_P D classes [(g, .inr (3, [.ref qc, .ref qp, .ref qi, .ref qs, .ref qr, .ref qo, .ref qx, .int (iZ ps)])), (qi, .inr (0, [.ref bi, .int (iZ Li), .int (iZ hdi), .int (iZ hni), .int (iZ ovi), .int (iZ tsi), .int (iZ tbi)])), (bi, .inl (cB, 6000, .inl (zA fi))), (qc, .inl (cI, 256, .inl (zA (zu x3 ((fi (ps.toNat + n) % 256).toNat) ((x3 ((fi (ps.toNat + n) % 256).toNat)) + 1)))))] H := jP
        have jD : va_D A [(g, .inr (3, [.ref qc, .ref qp, .ref qi, .ref qs, .ref qr, .ref qo, .ref qx, .int (iZ ps)])), (qi, .inr (0, [.ref bi, .int (iZ Li), .int (iZ hdi), .int (iZ hni), .int (iZ ovi), .int (iZ tsi), .int (iZ tbi)])), (bi, .inl (cB, 6000, .inl (zA fi))), (qc, .inl (cI, 256, .inl (zA (zu x3 ((fi (ps.toNat + n) % 256).toNat) ((x3 ((fi (ps.toNat + n) % 256).toNat)) + 1)))))] := jD
        refine lv_iinc (v := iZ (ps + ((n + 1 : Nat) : Int))) (lv' := [(1, .int (iZ (ps + ((n + 1 : Nat) : Int)))), (0, .ref g)]) jx jb d_SC_countAll_41 jl (k := 1) rfl (by rw [show (ps + ((n + 1 : Nat) : Int)) = (ps + (n : Int)) + 1 from by omega]; exact iZ_add _ _) (by decide) rfl (fun ls jl => ?_)
        refine lv_goto (tgt := 13) jx jb d_SC_countAll_44 (by decide) ?_
        exact ih13 (n + 1) (zu x3 ((fi (ps.toNat + n) % 256).toNat) ((x3 ((fi (ps.toNat + n) % 256).toNat)) + 1)) (by omega) (by first | assumption | omega) (cnB_s (b := fun j => fi j % 256) h3 (by constructor <;> omega)) _ _ (jP.sub [0, 1, 2, 3] rfl) (jD.sub [0, 1, 2, 3] (by decide) rfl) jS _ (lv_sub jl [1, 0] rfl)
  exact hloop13 (((Li - ps).toNat - 0) + 1) 0 (fun k => if k < 256 then 0 else fc k) (Nat.lt_succ_self _) (by first | assumption | omega) (fun s hs => if_pos hs) _ _ (jP.sub [0, 1, 2, 3] rfl) (jD.sub [0, 1, 2, 3] (by decide) rfl) jS _ (lv_sub jl [1, 0] rfl)
abbrev rm_SW_putZeros : Room := { frames := 2, cells := 0, slots := 0, locals := 43 }
set_option maxHeartbeats 4000000 in
set_option maxRecDepth 100000 in
theorem c_SW_putZeros (l : Launch) (D : va_G) (cI cB cZ : ClassId) (sz : Nat) (qs : Nat) (pP : Nat) (pS : Nat) (pB : Nat) (pA : Nat) (pC : Nat) (pF : Nat) (pN : Nat) (o : Nat) (gP : Nat → Int) (h : Nat) (hb : Nat) (L : Int) (hd : Int) (hn : Int) (ov : Int) (ts : Int) (tb : Int) (f : Nat → Int) (V : Nat) (B : Nat) (a : Nat) (hI : rI V B (B / 8) L hd hn ov f) (hpr : ∀ k, k < 256 → -1 ≤ gP k ∧ gP k ≤ 65536) (ha : a ≤ 256) : Met l y_ShareWriter_putZeros (.code y_ShareWriter_putZeros b_ShareWriter_putZeros 5 (some .int) :: zT) rm_SW_putZeros (zPc D classes (TY cI cB cZ) [(qs, .inr (1, [.ref pP, .ref pS, .ref pB, .ref pA, .ref pC, .ref pF, .ref pN, .int (iZ (o : Int))])), (pP, .inl (cI, 256, .inl (zA gP))), (h, .inr (0, [.ref hb, .int (iZ L), .int (iZ hd), .int (iZ hn), .int (iZ ov), .int (iZ ts), .int (iZ tb)])), (hb, .inl (cB, 6000, .inl (zA f)))] sz [.ref qs, .int (iZ (a : Int)), .ref h]) (zFi (S := Nat × Int × Int × Int × Int × (Nat → Int)) D classes (fun z u => z = (u.1 : Int) ∧ (a ≤ u.1 ∧ u.1 ≤ 256 ∧ (∀ k, a ≤ k → k < u.1 → gP k = 0) ∧ (u.1 = 256 ∨ gP u.1 ≠ 0)) ∧ rI (V + zX (u.1 - a) * 2 ^ B) (B + zN (u.1 - a)) ((B + zN (u.1 - a)) / 8) u.2.1 u.2.2.1 u.2.2.2.1 u.2.2.2.2.1 u.2.2.2.2.2) (fun u => [(qs, .inr (1, [.ref pP, .ref pS, .ref pB, .ref pA, .ref pC, .ref pF, .ref pN, .int (iZ (o : Int))])), (pP, .inl (cI, 256, .inl (zA gP))), (h, .inr (0, [.ref hb, .int (iZ u.2.1), .int (iZ u.2.2.1), .int (iZ u.2.2.2.1), .int (iZ u.2.2.2.2.1), .int (iZ ts), .int (iZ tb)])), (hb, .inl (cB, 6000, .inl (zA u.2.2.2.2.2)))]) (va_A [(qs, .inr (1, [.ref pP, .ref pS, .ref pB, .ref pA, .ref pC, .ref pF, .ref pN, .int (iZ (o : Int))])), (pP, .inl (cI, 256, .inl (zA gP))), (h, .inr (0, [.ref hb, .int (iZ L), .int (iZ hd), .int (iZ hn), .int (iZ ov), .int (iZ ts), .int (iZ tb)])), (hb, .inl (cB, 6000, .inl (zA f)))] sz)) 0 0 (va_A [(qs, .inr (1, [.ref pP, .ref pS, .ref pB, .ref pA, .ref pC, .ref pF, .ref pN, .int (iZ (o : Int))])), (pP, .inl (cI, 256, .inl (zA gP))), (h, .inr (0, [.ref hb, .int (iZ L), .int (iZ hd), .int (iZ hn), .int (iZ ov), .int (iZ ts), .int (iZ tb)])), (hb, .inl (cB, 6000, .inl (zA f)))] sz) := by
  refine z_ofi (by decide) (Nat.le_of_ble_eq_true rfl) (Or.inl rfl) ?_
  intro p e s m args below meth c A Q E jA jK jret H locs jP jD jS ls jl
  obtain ⟨jx, jb, jrt, jml, jown, jts, jlk⟩ := E
  have jown : s.vm.findClass R_ShareWriter = some m.cls := jown
  have jl : lv_has ls 5 [(0, .ref qs), (1, .int (iZ (a : Int))), (2, .ref h)] := jl
  have hjoin23 : ∀ (b : Nat), (a ≤ b ∧ b ≤ 256 ∧ (∀ k, a ≤ k → k < b → gP k = 0) ∧ (b = 256 ∨ gP b ≠ 0)) → ∀ (H : Heap) (locs : List Loc), va_P D classes [(qs, .inr (1, [.ref pP, .ref pS, .ref pB, .ref pA, .ref pC, .ref pF, .ref pN, .int (iZ (o : Int))])), (pP, .inl (cI, 256, .inl (zA gP))), (h, .inr (0, [.ref hb, .int (iZ L), .int (iZ hd), .int (iZ hn), .int (iZ ov), .int (iZ ts), .int (iZ tb)])), (hb, .inl (cB, 6000, .inl (zA f)))] H → va_D A [(qs, .inr (1, [.ref pP, .ref pS, .ref pB, .ref pA, .ref pC, .ref pF, .ref pN, .int (iZ (o : Int))])), (pP, .inl (cI, 256, .inl (zA gP))), (h, .inr (0, [.ref hb, .int (iZ L), .int (iZ hd), .int (iZ hn), .int (iZ ov), .int (iZ ts), .int (iZ tb)])), (hb, .inl (cB, 6000, .inl (zA f)))] → va_S A s.heap H locs → ∀ ls : Array Slot, lv_has ls 5 [(0, .ref qs), (1, .int (iZ (a : Int))), (2, .ref h), (3, .int (iZ (b : Int)))] → W p l e rm_SW_putZeros s m args below meth c H locs 0 0 Q (F0 m 23 ls []) := by
    intro b hbb H locs jP jD jS ls jl
    refine lv_iload_n jx jb d_ShareWriter_putZeros_23 rfl (lv_at jl 3 rfl) ?_
    refine lv_iload_n jx jb d_ShareWriter_putZeros_24 rfl (lv_at jl 1 rfl) ?_
    refine z_isub jx jb d_ShareWriter_putZeros_25 ?_
    refine z_top ((b - a - 3 * 0 : Nat) : Int) (by omega) ?_
    refine lv_istore (lv' := [(4, .int (iZ ((b - a - 3 * 0 : Nat) : Int))), (0, .ref qs), (1, .int (iZ (a : Int))), (2, .ref h), (3, .int (iZ (b : Int)))]) jx jb d_ShareWriter_putZeros_26 jl (by decide) rfl (fun ls jl => ?_)
    have hloop28 : ∀ (nF : Nat) (i : Nat) (L2 : Int) (hd2 : Int) (hn2 : Int) (ov2 : Int) (f2 : Nat → Int), b - a - 3 * i < nF → (3 * i ≤ b - a) → (rI (V + (4 ^ i - 1) * 2 ^ B) (B + 2 * i) ((B + 2 * i) / 8) L2 hd2 hn2 ov2 f2) → ∀ (H : Heap) (locs : List Loc), va_P D classes [(qs, .inr (1, [.ref pP, .ref pS, .ref pB, .ref pA, .ref pC, .ref pF, .ref pN, .int (iZ (o : Int))])), (pP, .inl (cI, 256, .inl (zA gP))), (h, .inr (0, [.ref hb, .int (iZ L2), .int (iZ hd2), .int (iZ hn2), .int (iZ ov2), .int (iZ ts), .int (iZ tb)])), (hb, .inl (cB, 6000, .inl (zA f2)))] H → va_D A [(qs, .inr (1, [.ref pP, .ref pS, .ref pB, .ref pA, .ref pC, .ref pF, .ref pN, .int (iZ (o : Int))])), (pP, .inl (cI, 256, .inl (zA gP))), (h, .inr (0, [.ref hb, .int (iZ L2), .int (iZ hd2), .int (iZ hn2), .int (iZ ov2), .int (iZ ts), .int (iZ tb)])), (hb, .inl (cB, 6000, .inl (zA f2)))] → va_S A s.heap H locs → ∀ ls : Array Slot, lv_has ls 5 [(0, .ref qs), (2, .ref h), (3, .int (iZ (b : Int))), (4, .int (iZ ((b - a - 3 * i : Nat) : Int)))] → W p l e rm_SW_putZeros s m args below meth c H locs 0 0 Q (F0 m 28 ls []) := by
      intro nF
      induction nF with
      | zero => intro i L2 hd2 hn2 ov2 f2 hm; exact absurd hm (Nat.not_lt_zero _)
      | succ nF ih28 =>
        intro i L2 hd2 hn2 ov2 f2 hm hi h2 H locs jP jD jS ls jl
        refine lv_iload jx jb d_ShareWriter_putZeros_28 (lv_at jl 3 rfl) ?_
        refine lv_iconst (v := iZ 3) jx jb d_ShareWriter_putZeros_30 rfl ?_
        refine z_icmp_lt (tgt := 46) jx jb d_ShareWriter_putZeros_31 (by decide) ⟨⟨by omega, by omega⟩, ⟨by decide, by decide⟩⟩ (fun hc31 => ?_) (fun hc31 => ?_)
        ·
          refine lv_aload_n jx jb d_ShareWriter_putZeros_46 rfl (lv_at jl 1 rfl) ?_
          refine lv_iload jx jb d_ShareWriter_putZeros_47 (lv_at jl 3 rfl) ?_
          refine lv_iconst (v := iZ 2) jx jb d_ShareWriter_putZeros_49 rfl ?_
          refine z_backv (wr := [(qs, .inr (1, [.ref pP, .ref pS, .ref pB, .ref pA, .ref pC, .ref pF, .ref pN, .int (iZ (o : Int))])), (pP, .inl (cI, 256, .inl (zA gP)))]) jP jD jS jA [2, 3] [0, 1] rfl rfl (by decide) (by decide) (va_runV (As := [.int (iZ ((b - a - 3 * i : Nat) : Int)), .int (iZ 2)]) (rest := []) ⟨jx, jb, jml, jown, jts⟩ (c_Row_putBits l D cI cB cZ H.size h hb L2 hd2 hn2 ov2 ts tb f2 (b - a - 3 * i : Nat) 2 (V + (4 ^ i - 1) * 2 ^ B) (B + 2 * i) (h2) (by omega) (by decide)) (zc_V 2 jts cd_Row_putBits lk_ShareWriter_20 im_Row_putBits se_Row_putBits in_Row hd_Row_putBits ⟨Nat.le_of_ble_eq_true rfl, Nat.le_of_ble_eq_true rfl⟩ rfl rfl) (z_preV jK jP jD [2, 3] (by decide) rfl rfl rfl rfl) rfl rfl jl.1 rfl (lv_room (Nat.le_of_ble_eq_true rfl)) d_ShareWriter_putZeros_50 ⟨Nat.le_of_ble_eq_true rfl, Nat.le_of_ble_eq_true rfl⟩) (fun u50 H locs hu50 jP jD jS => ?_)
          obtain ⟨L1_50, hd1_50, hn1_50, ov1_50, f1_50⟩ := u50
          have jP : va_P D classes [(qs, .inr (1, [.ref pP, .ref pS, .ref pB, .ref pA, .ref pC, .ref pF, .ref pN, .int (iZ (o : Int))])), (pP, .inl (cI, 256, .inl (zA gP))), (h, .inr (0, [.ref hb, .int (iZ L1_50), .int (iZ hd1_50), .int (iZ hn1_50), .int (iZ ov1_50), .int (iZ ts), .int (iZ tb)])), (hb, .inl (cB, 6000, .inl (zA f1_50)))] H := jP.sub [0, 1, 2, 3] rfl
          have jD : va_D A [(qs, .inr (1, [.ref pP, .ref pS, .ref pB, .ref pA, .ref pC, .ref pF, .ref pN, .int (iZ (o : Int))])), (pP, .inl (cI, 256, .inl (zA gP))), (h, .inr (0, [.ref hb, .int (iZ L1_50), .int (iZ hd1_50), .int (iZ hn1_50), .int (iZ ov1_50), .int (iZ ts), .int (iZ tb)])), (hb, .inl (cB, 6000, .inl (zA f1_50)))] := jD.sub [0, 1, 2, 3] (by decide) rfl
          refine lv_iload_n jx jb d_ShareWriter_putZeros_53 rfl (lv_at jl 2 rfl) ?_
          exact jret _ _ _ (b, L1_50, hd1_50, hn1_50, ov1_50, f1_50) _ _ (Or.inl rfl) (⟨rfl, hbb, rI_ze (i := i) (by omega) hu50⟩) (jP.sub [0, 1, 2, 3] rfl) (jD.sub [0, 1, 2, 3] (by decide) rfl) jS d_ShareWriter_putZeros_54
        ·
          refine lv_aload_n jx jb d_ShareWriter_putZeros_34 rfl (lv_at jl 1 rfl) ?_
          refine lv_iconst (v := iZ 3) jx jb d_ShareWriter_putZeros_35 rfl ?_
          refine lv_iconst (v := iZ 2) jx jb d_ShareWriter_putZeros_36 rfl ?_
          refine z_backv (wr := [(qs, .inr (1, [.ref pP, .ref pS, .ref pB, .ref pA, .ref pC, .ref pF, .ref pN, .int (iZ (o : Int))])), (pP, .inl (cI, 256, .inl (zA gP)))]) jP jD jS jA [2, 3] [0, 1] rfl rfl (by decide) (by decide) (va_runV (As := [.int (iZ 3), .int (iZ 2)]) (rest := []) ⟨jx, jb, jml, jown, jts⟩ (c_Row_putBits l D cI cB cZ H.size h hb L2 hd2 hn2 ov2 ts tb f2 3 2 (V + (4 ^ i - 1) * 2 ^ B) (B + 2 * i) (h2) (by decide) (by decide)) (zc_V 2 jts cd_Row_putBits lk_ShareWriter_20 im_Row_putBits se_Row_putBits in_Row hd_Row_putBits ⟨Nat.le_of_ble_eq_true rfl, Nat.le_of_ble_eq_true rfl⟩ rfl rfl) (z_preV jK jP jD [2, 3] (by decide) rfl rfl rfl rfl) rfl rfl jl.1 rfl (lv_room (Nat.le_of_ble_eq_true rfl)) d_ShareWriter_putZeros_37 ⟨Nat.le_of_ble_eq_true rfl, Nat.le_of_ble_eq_true rfl⟩) (fun u37 H locs hu37 jP jD jS => ?_)
          obtain ⟨L1_37, hd1_37, hn1_37, ov1_37, f1_37⟩ := u37
          have jP : va_P D classes [(qs, .inr (1, [.ref pP, .ref pS, .ref pB, .ref pA, .ref pC, .ref pF, .ref pN, .int (iZ (o : Int))])), (pP, .inl (cI, 256, .inl (zA gP))), (h, .inr (0, [.ref hb, .int (iZ L1_37), .int (iZ hd1_37), .int (iZ hn1_37), .int (iZ ov1_37), .int (iZ ts), .int (iZ tb)])), (hb, .inl (cB, 6000, .inl (zA f1_37)))] H := jP.sub [0, 1, 2, 3] rfl
          have jD : va_D A [(qs, .inr (1, [.ref pP, .ref pS, .ref pB, .ref pA, .ref pC, .ref pF, .ref pN, .int (iZ (o : Int))])), (pP, .inl (cI, 256, .inl (zA gP))), (h, .inr (0, [.ref hb, .int (iZ L1_37), .int (iZ hd1_37), .int (iZ hn1_37), .int (iZ ov1_37), .int (iZ ts), .int (iZ tb)])), (hb, .inl (cB, 6000, .inl (zA f1_37)))] := jD.sub [0, 1, 2, 3] (by decide) rfl
          refine lv_iinc (v := iZ ((b - a - 3 * (i + 1) : Nat) : Int)) (lv' := [(4, .int (iZ ((b - a - 3 * (i + 1) : Nat) : Int))), (0, .ref qs), (2, .ref h), (3, .int (iZ (b : Int)))]) jx jb d_ShareWriter_putZeros_40 jl (k := 3) rfl (by rw [show ((b - a - 3 * (i + 1) : Nat) : Int) = ((b - a - 3 * i : Nat) : Int) + (-3) from by omega]; exact iZ_add _ _) (by decide) rfl (fun ls jl => ?_)
          refine lv_goto (tgt := 28) jx jb d_ShareWriter_putZeros_43 (by decide) ?_
          exact ih28 (i + 1) L1_37 hd1_37 hn1_37 ov1_37 f1_37 (by omega) (by first | assumption | omega) (rI_z hu37) _ _ (jP.sub [0, 1, 2, 3] rfl) (jD.sub [0, 1, 2, 3] (by decide) rfl) jS _ (lv_sub jl [1, 2, 3, 0] rfl)
    exact hloop28 ((b - a - 3 * 0) + 1) 0 L hd hn ov f (Nat.lt_succ_self _) (by first | assumption | omega) (rI_z0 hI) _ _ (jP.sub [0, 1, 2, 3] rfl) (jD.sub [0, 1, 2, 3] (by decide) rfl) jS _ (lv_sub jl [1, 3, 4, 0] rfl)
  refine lv_iload_n jx jb d_ShareWriter_putZeros_0 rfl (lv_at jl 1 rfl) ?_
  refine lv_istore_n (lv' := [(3, .int (iZ (a : Int))), (0, .ref qs), (1, .int (iZ (a : Int))), (2, .ref h)]) jx jb d_ShareWriter_putZeros_1 rfl jl (by decide) rfl (fun ls jl => ?_)
  have hloop2 : ∀ (nF : Nat) (b : Nat), 256 - b < nF → (a ≤ b ∧ b ≤ 256) → (∀ k, a ≤ k → k < b → gP k = 0) → ∀ (H : Heap) (locs : List Loc), va_P D classes [(qs, .inr (1, [.ref pP, .ref pS, .ref pB, .ref pA, .ref pC, .ref pF, .ref pN, .int (iZ (o : Int))])), (pP, .inl (cI, 256, .inl (zA gP))), (h, .inr (0, [.ref hb, .int (iZ L), .int (iZ hd), .int (iZ hn), .int (iZ ov), .int (iZ ts), .int (iZ tb)])), (hb, .inl (cB, 6000, .inl (zA f)))] H → va_D A [(qs, .inr (1, [.ref pP, .ref pS, .ref pB, .ref pA, .ref pC, .ref pF, .ref pN, .int (iZ (o : Int))])), (pP, .inl (cI, 256, .inl (zA gP))), (h, .inr (0, [.ref hb, .int (iZ L), .int (iZ hd), .int (iZ hn), .int (iZ ov), .int (iZ ts), .int (iZ tb)])), (hb, .inl (cB, 6000, .inl (zA f)))] → va_S A s.heap H locs → ∀ ls : Array Slot, lv_has ls 5 [(0, .ref qs), (1, .int (iZ (a : Int))), (2, .ref h), (3, .int (iZ (b : Int)))] → W p l e rm_SW_putZeros s m args below meth c H locs 0 0 Q (F0 m 2 ls []) := by
    intro nF
    induction nF with
    | zero => intro b hm; exact absurd hm (Nat.not_lt_zero _)
    | succ nF ih2 =>
      intro b hm hbb hz0 H locs jP jD jS ls jl
      refine lv_iload_n jx jb d_ShareWriter_putZeros_2 rfl (lv_at jl 3 rfl) ?_
      refine lv_sipush (v := iZ 256) jx jb d_ShareWriter_putZeros_3 (by decide) ?_
      refine z_icmp_ge (tgt := 23) jx jb d_ShareWriter_putZeros_6 (by decide) ⟨⟨by omega, by omega⟩, ⟨by decide, by decide⟩⟩ (fun hc6 => ?_) (fun hc6 => ?_)
      ·
        exact hjoin23 b (⟨hbb.1, hbb.2, hz0, by omega⟩) _ _ (jP.sub [0, 1, 2, 3] rfl) (jD.sub [0, 1, 2, 3] (by decide) rfl) jS _ (lv_sub jl [0, 1, 2, 3] rfl)
      ·
        refine lv_aload_n jx jb d_ShareWriter_putZeros_9 rfl (lv_at jl 0 rfl) ?_
        refine lv_iload_n jx jb d_ShareWriter_putZeros_10 rfl (lv_at jl 3 rfl) ?_
        refine z_backe (va_runV (As := [.int (iZ (b : Int))]) (rest := []) ⟨jx, jb, jml, jown, jts⟩ (c_Share_pointsOf l D cI cB cZ qs pP pS pB pA pC pF pN o gP (b : Int) (by first | assumption | omega)) (zc_V 1 jts cd_Share_pointsOf lk_ShareWriter_27 im_Share_pointsOf se_Share_pointsOf in_Share hd_Share_pointsOf ⟨Nat.le_of_ble_eq_true rfl, Nat.le_of_ble_eq_true rfl⟩ rfl rfl) (z_preVR jK jP [0, 1] rfl rfl rfl) rfl rfl jl.1 rfl (lv_room (Nat.le_of_ble_eq_true rfl)) d_ShareWriter_putZeros_11 ⟨Nat.le_of_ble_eq_true rfl, Nat.le_of_ble_eq_true rfl⟩) ?_
        refine z_top (gP b) (rfl) ?_
        have hpb := hpr b (by omega)
        refine z_if_ne (tgt := 23) jx jb d_ShareWriter_putZeros_14 (by decide) ⟨by omega, by omega⟩ (fun hc14 => ?_) (fun hc14 => ?_)
        ·
          exact hjoin23 b (⟨hbb.1, hbb.2, hz0, by omega⟩) _ _ (jP.sub [0, 1, 2, 3] rfl) (jD.sub [0, 1, 2, 3] (by decide) rfl) jS _ (lv_sub jl [0, 1, 2, 3] rfl)
        ·
          refine lv_iinc (v := iZ ((b : Int) + 1)) (lv' := [(3, .int (iZ ((b : Int) + 1))), (0, .ref qs), (1, .int (iZ (a : Int))), (2, .ref h)]) jx jb d_ShareWriter_putZeros_17 jl (k := 3) rfl (iZ_add _ _) (by decide) rfl (fun ls jl => ?_)
          refine lv_goto (tgt := 2) jx jb d_ShareWriter_putZeros_20 (by decide) ?_
          exact ih2 (b + 1) (by omega) (by first | assumption | omega) (zr_step hz0 hc14) _ _ (jP.sub [0, 1, 2, 3] rfl) (jD.sub [0, 1, 2, 3] (by decide) rfl) jS _ (lv_sub jl [1, 2, 3, 0] rfl)
  exact hloop2 ((256 - a) + 1) a (Nat.lt_succ_self _) (by first | assumption | omega) (fun k q1 q2 => absurd q1 (by omega)) _ _ (jP.sub [0, 1, 2, 3] rfl) (jD.sub [0, 1, 2, 3] (by decide) rfl) jS _ (lv_sub jl [1, 2, 3, 0] rfl)
abbrev rm_SW_putShare : Room := { frames := 5, cells := 0, slots := 0, locals := 104 }
set_option maxHeartbeats 4000000 in
set_option maxRecDepth 100000 in
theorem c_SW_putShare (l : Launch) (D : va_G) (cI cB cZ : ClassId) (sz : Nat) (qs : Nat) (pP : Nat) (pS : Nat) (pB : Nat) (pA : Nat) (pC : Nat) (pF : Nat) (pN : Nat) (o : Nat) (gP : Nat → Int) (h : Nat) (hb : Nat) (L : Int) (hd : Int) (hn : Int) (ov : Int) (ts : Int) (tb : Int) (f : Nat → Int) (hpr : ∀ k, k < 256 → -1 ≤ gP k ∧ gP k ≤ 65536) (ho : 5 ≤ o ∧ o ≤ 12) (hsum : cum gP 256 = 2 ^ o) (hfr : ∀ k, -128 ≤ f k ∧ f k < 128) : Met l y_ShareWriter_putShare (.code y_ShareWriter_putShare b_ShareWriter_putShare 6 none :: zT) rm_SW_putShare (zPc D classes (TY cI cB cZ) [(qs, .inr (1, [.ref pP, .ref pS, .ref pB, .ref pA, .ref pC, .ref pF, .ref pN, .int (iZ (o : Int))])), (pP, .inl (cI, 256, .inl (zA gP))), (h, .inr (0, [.ref hb, .int (iZ L), .int (iZ hd), .int (iZ hn), .int (iZ ov), .int (iZ ts), .int (iZ tb)])), (hb, .inl (cB, 6000, .inl (zA f)))] sz [.ref qs, .ref h]) (zFv (S := Int × Int × Int × Int × (Nat → Int)) D classes (fun u => rI (dC gP o).1 (8 * (((dC gP o).2 + 7) / 8)) (((dC gP o).2 + 7) / 8) u.1 u.2.1 u.2.2.1 u.2.2.2.1 u.2.2.2.2) (fun u => [(qs, .inr (1, [.ref pP, .ref pS, .ref pB, .ref pA, .ref pC, .ref pF, .ref pN, .int (iZ (o : Int))])), (pP, .inl (cI, 256, .inl (zA gP))), (h, .inr (0, [.ref hb, .int (iZ u.1), .int (iZ u.2.1), .int (iZ u.2.2.1), .int (iZ u.2.2.2.1), .int (iZ ts), .int (iZ tb)])), (hb, .inl (cB, 6000, .inl (zA u.2.2.2.2)))]) (va_A [(qs, .inr (1, [.ref pP, .ref pS, .ref pB, .ref pA, .ref pC, .ref pF, .ref pN, .int (iZ (o : Int))])), (pP, .inl (cI, 256, .inl (zA gP))), (h, .inr (0, [.ref hb, .int (iZ L), .int (iZ hd), .int (iZ hn), .int (iZ ov), .int (iZ ts), .int (iZ tb)])), (hb, .inl (cB, 6000, .inl (zA f)))] sz)) 0 0 (va_A [(qs, .inr (1, [.ref pP, .ref pS, .ref pB, .ref pA, .ref pC, .ref pF, .ref pN, .int (iZ (o : Int))])), (pP, .inl (cI, 256, .inl (zA gP))), (h, .inr (0, [.ref hb, .int (iZ L), .int (iZ hd), .int (iZ hn), .int (iZ ov), .int (iZ ts), .int (iZ tb)])), (hb, .inl (cB, 6000, .inl (zA f)))] sz) := by
  refine z_ofv (by decide) (Nat.le_of_ble_eq_true rfl) rfl ?_
  intro p e s m args below meth c A Q E jmn jA jK jret H locs jP jD jS ls jl
  obtain ⟨jx, jb, jrt, jml, jown, jts, jlk⟩ := E
  have jown : s.vm.findClass R_ShareWriter = some m.cls := jown
  have hp12 := p2_le ho.2
  have jl : lv_has ls 6 [(0, .ref qs), (1, .ref h)] := jl
  refine lv_aload_n jx jb d_ShareWriter_putShare_0 rfl (lv_at jl 1 rfl) ?_
  refine z_backv (wr := [(qs, .inr (1, [.ref pP, .ref pS, .ref pB, .ref pA, .ref pC, .ref pF, .ref pN, .int (iZ (o : Int))])), (pP, .inl (cI, 256, .inl (zA gP))), (hb, .inl (cB, 6000, .inl (zA f)))]) jP jD jS jA [2] [0, 1, 3] rfl rfl (by decide) (by decide) (va_runV (As := []) (rest := []) ⟨jx, jb, jml, jown, jts⟩ (c_Row_empty l D cI cB cZ H.size h hb L hd hn ov ts tb) (zc_V 0 jts cd_Row_empty lk_ShareWriter_9 im_Row_empty se_Row_empty in_Row hd_Row_empty ⟨Nat.le_of_ble_eq_true rfl, Nat.le_of_ble_eq_true rfl⟩ rfl rfl) (z_preV jK jP jD [2] (by decide) rfl rfl rfl rfl) rfl rfl jl.1 rfl (lv_room (Nat.le_of_ble_eq_true rfl)) d_ShareWriter_putShare_1 ⟨Nat.le_of_ble_eq_true rfl, Nat.le_of_ble_eq_true rfl⟩) (fun u1 H locs hu1 jP jD jS => ?_)
  have jP : va_P D classes [(qs, .inr (1, [.ref pP, .ref pS, .ref pB, .ref pA, .ref pC, .ref pF, .ref pN, .int (iZ (o : Int))])), (pP, .inl (cI, 256, .inl (zA gP))), (h, .inr (0, [.ref hb, .int (iZ 0), .int (iZ 0), .int (iZ 0), .int (iZ 0), .int (iZ ts), .int (iZ tb)])), (hb, .inl (cB, 6000, .inl (zA f)))] H := jP.sub [0, 1, 3, 2] rfl
  have jD : va_D A [(qs, .inr (1, [.ref pP, .ref pS, .ref pB, .ref pA, .ref pC, .ref pF, .ref pN, .int (iZ (o : Int))])), (pP, .inl (cI, 256, .inl (zA gP))), (h, .inr (0, [.ref hb, .int (iZ 0), .int (iZ 0), .int (iZ 0), .int (iZ 0), .int (iZ ts), .int (iZ tb)])), (hb, .inl (cB, 6000, .inl (zA f)))] := jD.sub [0, 1, 3, 2] (by decide) rfl
  refine lv_aload_n jx jb d_ShareWriter_putShare_4 rfl (lv_at jl 1 rfl) ?_
  refine lv_aload_n jx jb d_ShareWriter_putShare_5 rfl (lv_at jl 0 rfl) ?_
  refine z_backe (va_runV (As := []) (rest := [.ref h]) ⟨jx, jb, jml, jown, jts⟩ (c_Share_order l D cI cB cZ qs pP pS pB pA pC pF pN o) (zc_V 0 jts cd_Share_order lk_ShareWriter_14 im_Share_order se_Share_order in_Share hd_Share_order ⟨Nat.le_of_ble_eq_true rfl, Nat.le_of_ble_eq_true rfl⟩ rfl rfl) (z_preVR jK jP [0] rfl rfl rfl) rfl rfl jl.1 rfl (lv_room (Nat.le_of_ble_eq_true rfl)) d_ShareWriter_putShare_6 ⟨Nat.le_of_ble_eq_true rfl, Nat.le_of_ble_eq_true rfl⟩) ?_
  refine lv_iconst (v := iZ 5) jx jb d_ShareWriter_putShare_9 rfl ?_
  refine z_isub jx jb d_ShareWriter_putShare_10 ?_
  refine z_top ((o - 5 : Nat) : Int) (by omega) ?_
  refine lv_iconst (v := iZ 4) jx jb d_ShareWriter_putShare_11 rfl ?_
  refine z_backv (wr := [(qs, .inr (1, [.ref pP, .ref pS, .ref pB, .ref pA, .ref pC, .ref pF, .ref pN, .int (iZ (o : Int))])), (pP, .inl (cI, 256, .inl (zA gP)))]) jP jD jS jA [2, 3] [0, 1] rfl rfl (by decide) (by decide) (va_runV (As := [.int (iZ ((o - 5 : Nat) : Int)), .int (iZ 4)]) (rest := []) ⟨jx, jb, jml, jown, jts⟩ (c_Row_putBits l D cI cB cZ H.size h hb 0 0 0 0 ts tb f (o - 5 : Nat) 4 0 0 (rI_0 hfr) (by omega) (by decide)) (zc_V 2 jts cd_Row_putBits lk_ShareWriter_20 im_Row_putBits se_Row_putBits in_Row hd_Row_putBits ⟨Nat.le_of_ble_eq_true rfl, Nat.le_of_ble_eq_true rfl⟩ rfl rfl) (z_preV jK jP jD [2, 3] (by decide) rfl rfl rfl rfl) rfl rfl jl.1 rfl (lv_room (Nat.le_of_ble_eq_true rfl)) d_ShareWriter_putShare_12 ⟨Nat.le_of_ble_eq_true rfl, Nat.le_of_ble_eq_true rfl⟩) (fun u12 H locs hu12 jP jD jS => ?_)
  obtain ⟨L1_12, hd1_12, hn1_12, ov1_12, f1_12⟩ := u12
  have jP : va_P D classes [(qs, .inr (1, [.ref pP, .ref pS, .ref pB, .ref pA, .ref pC, .ref pF, .ref pN, .int (iZ (o : Int))])), (pP, .inl (cI, 256, .inl (zA gP))), (h, .inr (0, [.ref hb, .int (iZ L1_12), .int (iZ hd1_12), .int (iZ hn1_12), .int (iZ ov1_12), .int (iZ ts), .int (iZ tb)])), (hb, .inl (cB, 6000, .inl (zA f1_12)))] H := jP.sub [0, 1, 2, 3] rfl
  have jD : va_D A [(qs, .inr (1, [.ref pP, .ref pS, .ref pB, .ref pA, .ref pC, .ref pF, .ref pN, .int (iZ (o : Int))])), (pP, .inl (cI, 256, .inl (zA gP))), (h, .inr (0, [.ref hb, .int (iZ L1_12), .int (iZ hd1_12), .int (iZ hn1_12), .int (iZ ov1_12), .int (iZ ts), .int (iZ tb)])), (hb, .inl (cB, 6000, .inl (zA f1_12)))] := jD.sub [0, 1, 2, 3] (by decide) rfl
  refine lv_aload_n jx jb d_ShareWriter_putShare_15 rfl (lv_at jl 0 rfl) ?_
  refine z_backe (va_runV (As := []) (rest := []) ⟨jx, jb, jml, jown, jts⟩ (c_Share_cells l D cI cB cZ qs pP pS pB pA pC pF pN o (by first | assumption | omega)) (zc_V 0 jts cd_Share_cells lk_ShareWriter_24 im_Share_cells se_Share_cells in_Share hd_Share_cells ⟨Nat.le_of_ble_eq_true rfl, Nat.le_of_ble_eq_true rfl⟩ rfl rfl) (z_preVR jK jP [0] rfl rfl rfl) rfl rfl jl.1 rfl (lv_room (Nat.le_of_ble_eq_true rfl)) d_ShareWriter_putShare_16 ⟨Nat.le_of_ble_eq_true rfl, Nat.le_of_ble_eq_true rfl⟩) ?_
  refine lv_istore_n (lv' := [(2, .int (iZ (2 ^ o))), (0, .ref qs), (1, .ref h)]) jx jb d_ShareWriter_putShare_19 rfl jl (by decide) rfl (fun ls jl => ?_)
  refine lv_iconst (v := iZ 0) jx jb d_ShareWriter_putShare_20 rfl ?_
  refine lv_istore_n (lv' := [(3, .int (iZ 0)), (2, .int (iZ (2 ^ o))), (0, .ref qs), (1, .ref h)]) jx jb d_ShareWriter_putShare_21 rfl jl (by decide) rfl (fun ls jl => ?_)
  refine lv_iconst (v := iZ 0) jx jb d_ShareWriter_putShare_22 rfl ?_
  refine lv_istore (lv' := [(4, .int (iZ 0)), (3, .int (iZ 0)), (2, .int (iZ (2 ^ o))), (0, .ref qs), (1, .ref h)]) jx jb d_ShareWriter_putShare_23 jl (by decide) rfl (fun ls jl => ?_)
  have hloop25 : ∀ (nF : Nat) (i : Nat) (y : Nat) (R2 : Int) (V2 : Nat) (B2 : Nat) (L2 : Int) (hd2 : Int) (hn2 : Int) (ov2 : Int) (f2 : Nat → Int), 256 - i < nF → (i ≤ y ∧ y ≤ 256) → (R2 = 2 ^ o - cum gP y) → (rI V2 B2 (B2 / 8) L2 hd2 hn2 ov2 f2) → (shR gP (dC gP o) y R2 V2 B2) → ∀ (H : Heap) (locs : List Loc), va_P D classes [(qs, .inr (1, [.ref pP, .ref pS, .ref pB, .ref pA, .ref pC, .ref pF, .ref pN, .int (iZ (o : Int))])), (pP, .inl (cI, 256, .inl (zA gP))), (h, .inr (0, [.ref hb, .int (iZ L2), .int (iZ hd2), .int (iZ hn2), .int (iZ ov2), .int (iZ ts), .int (iZ tb)])), (hb, .inl (cB, 6000, .inl (zA f2)))] H → va_D A [(qs, .inr (1, [.ref pP, .ref pS, .ref pB, .ref pA, .ref pC, .ref pF, .ref pN, .int (iZ (o : Int))])), (pP, .inl (cI, 256, .inl (zA gP))), (h, .inr (0, [.ref hb, .int (iZ L2), .int (iZ hd2), .int (iZ hn2), .int (iZ ov2), .int (iZ ts), .int (iZ tb)])), (hb, .inl (cB, 6000, .inl (zA f2)))] → va_S A s.heap H locs → ∀ ls : Array Slot, lv_has ls 6 [(0, .ref qs), (1, .ref h), (2, .int (iZ R2)), (3, .int (iZ (y : Int))), (4, .int (iZ (i : Int)))] → W p l e rm_SW_putShare s m args below meth c H locs 0 0 Q (F0 m 25 ls []) := by
    intro nF
    induction nF with
    | zero => intro i y R2 V2 B2 L2 hd2 hn2 ov2 f2 hm; exact absurd hm (Nat.not_lt_zero _)
    | succ nF ih25 =>
      intro i y R2 V2 B2 L2 hd2 hn2 ov2 f2 hm hy hR2 h2 hC H locs jP jD jS ls jl
      have hcl := cum_lo hpr (b := y) hy.2
      have hcu := cum_mono hpr (a := y) (b := 256) hy.2 (by omega)
      refine lv_iload jx jb d_ShareWriter_putShare_25 (lv_at jl 4 rfl) ?_
      refine lv_sipush (v := iZ 256) jx jb d_ShareWriter_putShare_27 (by decide) ?_
      refine z_icmp_ge (tgt := 96) jx jb d_ShareWriter_putShare_30 (by decide) ⟨⟨by omega, by omega⟩, ⟨by decide, by decide⟩⟩ (fun hc30 => ?_) (fun hc30 => ?_)
      ·
        refine lv_aload_n jx jb d_ShareWriter_putShare_96 rfl (lv_at jl 1 rfl) ?_
        refine z_backv (wr := [(qs, .inr (1, [.ref pP, .ref pS, .ref pB, .ref pA, .ref pC, .ref pF, .ref pN, .int (iZ (o : Int))])), (pP, .inl (cI, 256, .inl (zA gP)))]) jP jD jS jA [2, 3] [0, 1] rfl rfl (by decide) (by decide) (va_runV (As := []) (rest := []) ⟨jx, jb, jml, jown, jts⟩ (c_Row_closeBits l D cI cB cZ H.size h hb L2 hd2 hn2 ov2 ts tb f2 V2 B2 (h2)) (zc_V 0 jts cd_Row_closeBits lk_ShareWriter_44 im_Row_closeBits se_Row_closeBits in_Row hd_Row_closeBits ⟨Nat.le_of_ble_eq_true rfl, Nat.le_of_ble_eq_true rfl⟩ rfl rfl) (z_preV jK jP jD [2, 3] (by decide) rfl rfl rfl rfl) rfl rfl jl.1 rfl (lv_room (Nat.le_of_ble_eq_true rfl)) d_ShareWriter_putShare_97 ⟨Nat.le_of_ble_eq_true rfl, Nat.le_of_ble_eq_true rfl⟩) (fun u97 H locs hu97 jP jD jS => ?_)
        obtain ⟨L1_97, hd1_97, hn1_97, ov1_97, f1_97⟩ := u97
        have jP : va_P D classes [(qs, .inr (1, [.ref pP, .ref pS, .ref pB, .ref pA, .ref pC, .ref pF, .ref pN, .int (iZ (o : Int))])), (pP, .inl (cI, 256, .inl (zA gP))), (h, .inr (0, [.ref hb, .int (iZ L1_97), .int (iZ hd1_97), .int (iZ hn1_97), .int (iZ ov1_97), .int (iZ ts), .int (iZ tb)])), (hb, .inl (cB, 6000, .inl (zA f1_97)))] H := jP.sub [0, 1, 2, 3] rfl
        have jD : va_D A [(qs, .inr (1, [.ref pP, .ref pS, .ref pB, .ref pA, .ref pC, .ref pF, .ref pN, .int (iZ (o : Int))])), (pP, .inl (cI, 256, .inl (zA gP))), (h, .inr (0, [.ref hb, .int (iZ L1_97), .int (iZ hd1_97), .int (iZ hn1_97), .int (iZ ov1_97), .int (iZ ts), .int (iZ tb)])), (hb, .inl (cB, 6000, .inl (zA f1_97)))] := jD.sub [0, 1, 2, 3] (by decide) rfl
        exact jret _ _ (L1_97, hd1_97, hn1_97, ov1_97, f1_97) _ _ (by rw [shR_e hC (by omega)]; exact hu97) (jP.sub [0, 1, 2, 3] rfl) (jD.sub [0, 1, 2, 3] (by decide) rfl) jS d_ShareWriter_putShare_100
      ·
        refine lv_iload_n jx jb d_ShareWriter_putShare_33 rfl (lv_at jl 2 rfl) ?_
        refine z_if_le (tgt := 96) jx jb d_ShareWriter_putShare_34 (by decide) ⟨by omega, by omega⟩ (fun hc34 => ?_) (fun hc34 => ?_)
        ·
          refine lv_aload_n jx jb d_ShareWriter_putShare_96 rfl (lv_at jl 1 rfl) ?_
          refine z_backv (wr := [(qs, .inr (1, [.ref pP, .ref pS, .ref pB, .ref pA, .ref pC, .ref pF, .ref pN, .int (iZ (o : Int))])), (pP, .inl (cI, 256, .inl (zA gP)))]) jP jD jS jA [2, 3] [0, 1] rfl rfl (by decide) (by decide) (va_runV (As := []) (rest := []) ⟨jx, jb, jml, jown, jts⟩ (c_Row_closeBits l D cI cB cZ H.size h hb L2 hd2 hn2 ov2 ts tb f2 V2 B2 (h2)) (zc_V 0 jts cd_Row_closeBits lk_ShareWriter_44 im_Row_closeBits se_Row_closeBits in_Row hd_Row_closeBits ⟨Nat.le_of_ble_eq_true rfl, Nat.le_of_ble_eq_true rfl⟩ rfl rfl) (z_preV jK jP jD [2, 3] (by decide) rfl rfl rfl rfl) rfl rfl jl.1 rfl (lv_room (Nat.le_of_ble_eq_true rfl)) d_ShareWriter_putShare_97 ⟨Nat.le_of_ble_eq_true rfl, Nat.le_of_ble_eq_true rfl⟩) (fun u97 H locs hu97 jP jD jS => ?_)
          obtain ⟨L1_97, hd1_97, hn1_97, ov1_97, f1_97⟩ := u97
          have jP : va_P D classes [(qs, .inr (1, [.ref pP, .ref pS, .ref pB, .ref pA, .ref pC, .ref pF, .ref pN, .int (iZ (o : Int))])), (pP, .inl (cI, 256, .inl (zA gP))), (h, .inr (0, [.ref hb, .int (iZ L1_97), .int (iZ hd1_97), .int (iZ hn1_97), .int (iZ ov1_97), .int (iZ ts), .int (iZ tb)])), (hb, .inl (cB, 6000, .inl (zA f1_97)))] H := jP.sub [0, 1, 2, 3] rfl
          have jD : va_D A [(qs, .inr (1, [.ref pP, .ref pS, .ref pB, .ref pA, .ref pC, .ref pF, .ref pN, .int (iZ (o : Int))])), (pP, .inl (cI, 256, .inl (zA gP))), (h, .inr (0, [.ref hb, .int (iZ L1_97), .int (iZ hd1_97), .int (iZ hn1_97), .int (iZ ov1_97), .int (iZ ts), .int (iZ tb)])), (hb, .inl (cB, 6000, .inl (zA f1_97)))] := jD.sub [0, 1, 2, 3] (by decide) rfl
          exact jret _ _ (L1_97, hd1_97, hn1_97, ov1_97, f1_97) _ _ (by rw [shR_e hC (by omega)]; exact hu97) (jP.sub [0, 1, 2, 3] rfl) (jD.sub [0, 1, 2, 3] (by decide) rfl) jS d_ShareWriter_putShare_100
        ·
          refine lv_iload jx jb d_ShareWriter_putShare_37 (lv_at jl 4 rfl) ?_
          refine lv_iload_n jx jb d_ShareWriter_putShare_39 rfl (lv_at jl 3 rfl) ?_
          refine z_icmp_ne (tgt := 90) jx jb d_ShareWriter_putShare_40 (by decide) ⟨⟨by omega, by omega⟩, ⟨by omega, by omega⟩⟩ (fun hc40 => ?_) (fun hc40 => ?_)
          ·
            refine lv_iinc (v := iZ ((i : Int) + 1)) (lv' := [(4, .int (iZ ((i : Int) + 1))), (0, .ref qs), (1, .ref h), (2, .int (iZ R2)), (3, .int (iZ (y : Int)))]) jx jb d_ShareWriter_putShare_90 jl (k := 4) rfl (iZ_add _ _) (by decide) rfl (fun ls jl => ?_)
            refine lv_goto (tgt := 25) jx jb d_ShareWriter_putShare_93 (by decide) ?_
            exact ih25 (i + 1) y R2 V2 B2 L2 hd2 hn2 ov2 f2 (by omega) (by omega) (hR2) (h2) (hC) _ _ (jP.sub [0, 1, 2, 3] rfl) (jD.sub [0, 1, 2, 3] (by decide) rfl) jS _ (lv_sub jl [1, 2, 3, 4, 0] rfl)
          ·
            have hiy : i = y := by omega
            have hpy := hpr y (by omega)
            have hfit := cum_fit hpr (y := y) (by omega)
            have hwp := wgt_pt hpy.1 (show wgt (gP y) ≤ R2 by omega) (by omega)
            refine lv_aload_n jx jb d_ShareWriter_putShare_43 rfl (lv_at jl 0 rfl) ?_
            refine lv_iload jx jb d_ShareWriter_putShare_44 (lv_at jl 4 rfl) ?_
            refine z_top (y : Int) (by omega) ?_
            refine z_backe (va_runV (As := [.int (iZ (y : Int))]) (rest := []) ⟨jx, jb, jml, jown, jts⟩ (c_Share_pointsOf l D cI cB cZ qs pP pS pB pA pC pF pN o gP (y : Int) (by first | assumption | omega)) (zc_V 1 jts cd_Share_pointsOf lk_ShareWriter_27 im_Share_pointsOf se_Share_pointsOf in_Share hd_Share_pointsOf ⟨Nat.le_of_ble_eq_true rfl, Nat.le_of_ble_eq_true rfl⟩ rfl rfl) (z_preVR jK jP [0, 1] rfl rfl rfl) rfl rfl jl.1 rfl (lv_room (Nat.le_of_ble_eq_true rfl)) d_ShareWriter_putShare_46 ⟨Nat.le_of_ble_eq_true rfl, Nat.le_of_ble_eq_true rfl⟩) ?_
            refine z_top (gP y) (rfl) ?_
            refine lv_istore (lv' := [(5, .int (iZ (gP y))), (0, .ref qs), (1, .ref h), (2, .int (iZ R2)), (3, .int (iZ (y : Int))), (4, .int (iZ (i : Int)))]) jx jb d_ShareWriter_putShare_49 jl (by decide) rfl (fun ls jl => ?_)
            refine lv_iload jx jb d_ShareWriter_putShare_51 (lv_at jl 0 rfl) ?_
            refine lv_iconst (v := iZ 1) jx jb d_ShareWriter_putShare_53 rfl ?_
            refine z_iadd jx jb d_ShareWriter_putShare_54 ?_
            refine z_top ((gP y + 1).toNat : Int) (by omega) ?_
            refine lv_iload_n jx jb d_ShareWriter_putShare_55 rfl (lv_at jl 3 rfl) ?_
            refine lv_aload_n jx jb d_ShareWriter_putShare_56 rfl (lv_at jl 2 rfl) ?_
            refine z_backv (wr := [(qs, .inr (1, [.ref pP, .ref pS, .ref pB, .ref pA, .ref pC, .ref pF, .ref pN, .int (iZ (o : Int))])), (pP, .inl (cI, 256, .inl (zA gP)))]) jP jD jS jA [2, 3] [0, 1] rfl rfl (by decide) (by decide) (va_runS (As := [.int (iZ ((gP y + 1).toNat : Int)), .int (iZ R2), .ref h]) (rest := []) ⟨jx, jb, jml, jown, jts⟩ (c_SW_putNumber l D cI cB cZ H.size h hb L2 hd2 hn2 ov2 ts tb f2 V2 B2 ((gP y + 1).toNat) R2 (h2) (by omega) (by omega)) (zc_S 3 jts cd_ShareWriter_putNumber lk_ShareWriter_31 st_ShareWriter_putNumber in_ShareWriter hd_ShareWriter_putNumber ⟨Nat.le_of_ble_eq_true rfl, Nat.le_of_ble_eq_true rfl⟩ rfl rfl) (z_preS jK jP jD [2, 3] (by decide) rfl rfl) rfl rfl jl.1 rfl (lv_room (Nat.le_of_ble_eq_true rfl)) d_ShareWriter_putShare_57 ⟨Nat.le_of_ble_eq_true rfl, Nat.le_of_ble_eq_true rfl⟩) (fun u57 H locs hu57 jP jD jS => ?_)
            obtain ⟨L1_57, hd1_57, hn1_57, ov1_57, f1_57⟩ := u57
            have jP : va_P D classes [(qs, .inr (1, [.ref pP, .ref pS, .ref pB, .ref pA, .ref pC, .ref pF, .ref pN, .int (iZ (o : Int))])), (pP, .inl (cI, 256, .inl (zA gP))), (h, .inr (0, [.ref hb, .int (iZ L1_57), .int (iZ hd1_57), .int (iZ hn1_57), .int (iZ ov1_57), .int (iZ ts), .int (iZ tb)])), (hb, .inl (cB, 6000, .inl (zA f1_57)))] H := jP.sub [0, 1, 2, 3] rfl
            have jD : va_D A [(qs, .inr (1, [.ref pP, .ref pS, .ref pB, .ref pA, .ref pC, .ref pF, .ref pN, .int (iZ (o : Int))])), (pP, .inl (cI, 256, .inl (zA gP))), (h, .inr (0, [.ref hb, .int (iZ L1_57), .int (iZ hd1_57), .int (iZ hn1_57), .int (iZ ov1_57), .int (iZ ts), .int (iZ tb)])), (hb, .inl (cB, 6000, .inl (zA f1_57)))] := jD.sub [0, 1, 2, 3] (by decide) rfl
            refine lv_iload_n jx jb d_ShareWriter_putShare_60 rfl (lv_at jl 3 rfl) ?_
            refine lv_iload jx jb d_ShareWriter_putShare_61 (lv_at jl 0 rfl) ?_
            refine z_backe (va_runSN (As := [.int (iZ (gP y))]) (rest := [.int (iZ R2)]) ⟨jx, jb, jml, jown, jts⟩ (c_weight l D cI cB cZ (gP y) (by first | assumption | omega)) (zc_SN 1 jts cd_SC_weight (jK.nest ln_ShareWriter_37 rfl) st_SC_weight in_SC hd_SC_weight ⟨Nat.le_of_ble_eq_true rfl, Nat.le_of_ble_eq_true rfl⟩ rfl rfl) (z_preSR jK jP [] rfl) rfl rfl jl.1 rfl (lv_room (Nat.le_of_ble_eq_true rfl)) d_ShareWriter_putShare_63 ⟨Nat.le_of_ble_eq_true rfl, Nat.le_of_ble_eq_true rfl⟩) ?_
            refine z_isub jx jb d_ShareWriter_putShare_66 ?_
            refine lv_istore_n (lv' := [(2, .int (iZ (R2 - (wgt (gP y))))), (5, .int (iZ (gP y))), (0, .ref qs), (1, .ref h), (3, .int (iZ (y : Int))), (4, .int (iZ (i : Int)))]) jx jb d_ShareWriter_putShare_67 rfl jl (by decide) rfl (fun ls jl => ?_)
            refine lv_iload jx jb d_ShareWriter_putShare_68 (lv_at jl 1 rfl) ?_
            refine z_if_ne (tgt := 85) jx jb d_ShareWriter_putShare_70 (by decide) ⟨by omega, by omega⟩ (fun hc70 => ?_) (fun hc70 => ?_)
            ·
              refine lv_iload jx jb d_ShareWriter_putShare_85 (lv_at jl 5 rfl) ?_
              refine lv_iconst (v := iZ 1) jx jb d_ShareWriter_putShare_87 rfl ?_
              refine z_iadd jx jb d_ShareWriter_putShare_88 ?_
              refine z_top ((y + 1 : Nat) : Int) (by omega) ?_
              refine lv_istore_n (lv' := [(3, .int (iZ ((y + 1 : Nat) : Int))), (2, .int (iZ (R2 - (wgt (gP y))))), (5, .int (iZ (gP y))), (0, .ref qs), (1, .ref h), (4, .int (iZ (i : Int)))]) jx jb d_ShareWriter_putShare_89 rfl jl (by decide) rfl (fun ls jl => ?_)
              refine lv_iinc (v := iZ ((i : Int) + 1)) (lv' := [(4, .int (iZ ((i : Int) + 1))), (3, .int (iZ ((y + 1 : Nat) : Int))), (2, .int (iZ (R2 - (wgt (gP y))))), (5, .int (iZ (gP y))), (0, .ref qs), (1, .ref h)]) jx jb d_ShareWriter_putShare_90 jl (k := 5) rfl (iZ_add _ _) (by decide) rfl (fun ls jl => ?_)
              refine lv_goto (tgt := 25) jx jb d_ShareWriter_putShare_93 (by decide) ?_
              exact ih25 (i + 1) (y + 1 : Nat) (R2 - (wgt (gP y))) (V2 + numX R2 (gP y + 1).toNat * 2 ^ B2) (B2 + numN R2 (gP y + 1).toNat) L1_57 hd1_57 hn1_57 ov1_57 f1_57 (by omega) (by omega) (R_n hR2) (hu57) (shR_n hC (by omega) hc70) _ _ (jP.sub [0, 1, 2, 3] rfl) (jD.sub [0, 1, 2, 3] (by decide) rfl) jS _ (lv_sub jl [4, 5, 2, 1, 0] rfl)
            ·
              refine lv_aload_n jx jb d_ShareWriter_putShare_73 rfl (lv_at jl 2 rfl) ?_
              refine lv_iload jx jb d_ShareWriter_putShare_74 (lv_at jl 5 rfl) ?_
              refine lv_iconst (v := iZ 1) jx jb d_ShareWriter_putShare_76 rfl ?_
              refine z_iadd jx jb d_ShareWriter_putShare_77 ?_
              refine z_top ((y + 1 : Nat) : Int) (by omega) ?_
              refine lv_aload_n jx jb d_ShareWriter_putShare_78 rfl (lv_at jl 3 rfl) ?_
              refine z_backi (wr := []) jP jD jS jA [0, 1, 2, 3] [] rfl rfl (by decide) (by decide) (va_runS (As := [.ref qs, .int (iZ ((y + 1 : Nat) : Int)), .ref h]) (rest := []) ⟨jx, jb, jml, jown, jts⟩ (c_SW_putZeros l D cI cB cZ H.size qs pP pS pB pA pC pF pN o gP h hb L1_57 hd1_57 hn1_57 ov1_57 ts tb f1_57 (V2 + numX R2 (gP y + 1).toNat * 2 ^ B2) (B2 + numN R2 (gP y + 1).toNat) (y + 1 : Nat) (hu57) (by first | assumption | omega) (by omega)) (zc_S 3 jts cd_ShareWriter_putZeros lk_ShareWriter_40 st_ShareWriter_putZeros in_ShareWriter hd_ShareWriter_putZeros ⟨Nat.le_of_ble_eq_true rfl, Nat.le_of_ble_eq_true rfl⟩ rfl rfl) (z_preS jK jP jD [0, 1, 2, 3] (by decide) rfl rfl) rfl rfl jl.1 rfl (lv_room (Nat.le_of_ble_eq_true rfl)) d_ShareWriter_putShare_79 ⟨Nat.le_of_ble_eq_true rfl, Nat.le_of_ble_eq_true rfl⟩) (fun z79 u79 H locs hz79 jP jD jS => ?_)
              obtain ⟨b1_79, L1_79, hd1_79, hn1_79, ov1_79, f1_79⟩ := u79
              have jP : va_P D classes [(qs, .inr (1, [.ref pP, .ref pS, .ref pB, .ref pA, .ref pC, .ref pF, .ref pN, .int (iZ (o : Int))])), (pP, .inl (cI, 256, .inl (zA gP))), (h, .inr (0, [.ref hb, .int (iZ L1_79), .int (iZ hd1_79), .int (iZ hn1_79), .int (iZ ov1_79), .int (iZ ts), .int (iZ tb)])), (hb, .inl (cB, 6000, .inl (zA f1_79)))] H := jP.sub [0, 1, 2, 3] rfl
              have jD : va_D A [(qs, .inr (1, [.ref pP, .ref pS, .ref pB, .ref pA, .ref pC, .ref pF, .ref pN, .int (iZ (o : Int))])), (pP, .inl (cI, 256, .inl (zA gP))), (h, .inr (0, [.ref hb, .int (iZ L1_79), .int (iZ hd1_79), .int (iZ hn1_79), .int (iZ ov1_79), .int (iZ ts), .int (iZ tb)])), (hb, .inl (cB, 6000, .inl (zA f1_79)))] := jD.sub [0, 1, 2, 3] (by decide) rfl
              obtain ⟨rfl, hbz79, hrz79⟩ := hz79
              refine lv_goto (tgt := 89) jx jb d_ShareWriter_putShare_82 (by decide) ?_
              refine lv_istore_n (lv' := [(3, .int (iZ (b1_79 : Int))), (2, .int (iZ (R2 - (wgt (gP y))))), (5, .int (iZ (gP y))), (0, .ref qs), (1, .ref h), (4, .int (iZ (i : Int)))]) jx jb d_ShareWriter_putShare_89 rfl jl (by decide) rfl (fun ls jl => ?_)
              refine lv_iinc (v := iZ ((i : Int) + 1)) (lv' := [(4, .int (iZ ((i : Int) + 1))), (3, .int (iZ (b1_79 : Int))), (2, .int (iZ (R2 - (wgt (gP y))))), (5, .int (iZ (gP y))), (0, .ref qs), (1, .ref h)]) jx jb d_ShareWriter_putShare_90 jl (k := 5) rfl (iZ_add _ _) (by decide) rfl (fun ls jl => ?_)
              refine lv_goto (tgt := 25) jx jb d_ShareWriter_putShare_93 (by decide) ?_
              exact ih25 (i + 1) b1_79 (R2 - (wgt (gP y))) (V2 + numX R2 (gP y + 1).toNat * 2 ^ B2 + zX (b1_79 - (y + 1)) * 2 ^ (B2 + numN R2 (gP y + 1).toNat)) (B2 + numN R2 (gP y + 1).toNat + zN (b1_79 - (y + 1))) L1_79 hd1_79 hn1_79 ov1_79 f1_79 (by omega) (⟨by omega, hbz79.2.1⟩) (R_z hR2 hbz79) (hrz79) (shR_z hC (by omega) hc70 hbz79) _ _ (jP.sub [0, 1, 2, 3] rfl) (jD.sub [0, 1, 2, 3] (by decide) rfl) jS _ (lv_sub jl [4, 5, 2, 1, 0] rfl)
  exact hloop25 ((256 - 0) + 1) 0 0 (2 ^ o) (o - 5) 4 L1_12 hd1_12 hn1_12 ov1_12 f1_12 (Nat.lt_succ_self _) (by omega) ((Int.sub_zero _).symm) (rI_first hu12) (dC_0) _ _ (jP.sub [0, 1, 2, 3] rfl) (jD.sub [0, 1, 2, 3] (by decide) rfl) jS _ (lv_sub jl [3, 4, 2, 1, 0] rfl)
abbrev rm_SC_describe : Room := { frames := 6, cells := 0, slots := 0, locals := 129 }
set_option maxHeartbeats 4000000 in
set_option maxRecDepth 100000 in
theorem c_SC_describe (l : Launch) (D : va_G) (cI cB cZ : ClassId) (sz : Nat) (g : Nat) (qc : Nat) (qp : Nat) (qi : Nat) (qs : Nat) (qr : Nat) (qo : Nat) (qx : Nat) (ps : Int) (pP : Nat) (pS : Nat) (pB : Nat) (pA : Nat) (pC : Nat) (pF : Nat) (pN : Nat) (o : Nat) (gP : Nat → Int) (bo : Nat) (Lo : Int) (hdo : Int) (hno : Int) (ovo : Int) (tso : Int) (tbo : Int) (fo : Nat → Int) (hpr : ∀ k, k < 256 → -1 ≤ gP k ∧ gP k ≤ 65536) (ho : o = 0 ∨ (5 ≤ o ∧ o ≤ 12)) (hsum : 0 < o → cum gP 256 = 2 ^ o) (hfr : ∀ k, -128 ≤ fo k ∧ fo k < 128) : Met l y_SC_describe (.code y_SC_describe b_SC_describe 1 (some .int) :: zT) rm_SC_describe (zPc D classes (TY cI cB cZ) [(g, .inr (3, [.ref qc, .ref qp, .ref qi, .ref qs, .ref qr, .ref qo, .ref qx, .int (iZ ps)])), (qs, .inr (1, [.ref pP, .ref pS, .ref pB, .ref pA, .ref pC, .ref pF, .ref pN, .int (iZ (o : Int))])), (pP, .inl (cI, 256, .inl (zA gP))), (qo, .inr (0, [.ref bo, .int (iZ Lo), .int (iZ hdo), .int (iZ hno), .int (iZ ovo), .int (iZ tso), .int (iZ tbo)])), (bo, .inl (cB, 6000, .inl (zA fo)))] sz [.ref g]) (zFi (S := Int × Int × Int × Int × (Nat → Int)) D classes (fun z u => (z = -1 ∧ o = 0 ∧ u.1 = Lo ∧ u.2.1 = hdo ∧ u.2.2.1 = hno ∧ u.2.2.2.1 = ovo ∧ u.2.2.2.2 = fo) ∨ (z = u.1 ∧ 0 < o ∧ rI (dC gP o).1 (8 * (((dC gP o).2 + 7) / 8)) (((dC gP o).2 + 7) / 8) u.1 u.2.1 u.2.2.1 u.2.2.2.1 u.2.2.2.2)) (fun u => [(g, .inr (3, [.ref qc, .ref qp, .ref qi, .ref qs, .ref qr, .ref qo, .ref qx, .int (iZ ps)])), (qs, .inr (1, [.ref pP, .ref pS, .ref pB, .ref pA, .ref pC, .ref pF, .ref pN, .int (iZ (o : Int))])), (pP, .inl (cI, 256, .inl (zA gP))), (qo, .inr (0, [.ref bo, .int (iZ u.1), .int (iZ u.2.1), .int (iZ u.2.2.1), .int (iZ u.2.2.2.1), .int (iZ tso), .int (iZ tbo)])), (bo, .inl (cB, 6000, .inl (zA u.2.2.2.2)))]) (va_A [(g, .inr (3, [.ref qc, .ref qp, .ref qi, .ref qs, .ref qr, .ref qo, .ref qx, .int (iZ ps)])), (qs, .inr (1, [.ref pP, .ref pS, .ref pB, .ref pA, .ref pC, .ref pF, .ref pN, .int (iZ (o : Int))])), (pP, .inl (cI, 256, .inl (zA gP))), (qo, .inr (0, [.ref bo, .int (iZ Lo), .int (iZ hdo), .int (iZ hno), .int (iZ ovo), .int (iZ tso), .int (iZ tbo)])), (bo, .inl (cB, 6000, .inl (zA fo)))] sz)) 0 0 (va_A [(g, .inr (3, [.ref qc, .ref qp, .ref qi, .ref qs, .ref qr, .ref qo, .ref qx, .int (iZ ps)])), (qs, .inr (1, [.ref pP, .ref pS, .ref pB, .ref pA, .ref pC, .ref pF, .ref pN, .int (iZ (o : Int))])), (pP, .inl (cI, 256, .inl (zA gP))), (qo, .inr (0, [.ref bo, .int (iZ Lo), .int (iZ hdo), .int (iZ hno), .int (iZ ovo), .int (iZ tso), .int (iZ tbo)])), (bo, .inl (cB, 6000, .inl (zA fo)))] sz) := by
  refine z_ofi (by decide) (Nat.le_of_ble_eq_true rfl) (Or.inl rfl) ?_
  intro p e s m args below meth c A Q E jA jK jret H locs jP jD jS ls jl
  obtain ⟨jx, jb, jrt, jml, jown, jts, jlk⟩ := E
  have jown : s.vm.findClass R_SC = some m.cls := jown
  have jl : lv_has ls 1 [(0, .ref g)] := jl
  refine lv_aload_n jx jb d_SC_describe_0 rfl (lv_at jl 0 rfl) ?_
  refine va_get (D := D) (ci := 3) (v := .ref qs) (C := R_SC) (T := F_SC) (N := 8) jx jb jts i_SC jown jK.1 jP 0 rfl rfl 3 (by decide) (jts _ fl_SC_26) (fun _ h9 => h9) rfl d_SC_describe_1 ?_
  refine z_backr (va_runV (As := []) (rest := []) ⟨jx, jb, jml, jown, jts⟩ (c_Share_exists l D cI cB cZ qs pP pS pB pA pC pF pN o (by omega)) (zc_V 0 jts cd_Share_exists lk_SC_91 im_Share_exists se_Share_exists in_Share hd_Share_exists ⟨Nat.le_of_ble_eq_true rfl, Nat.le_of_ble_eq_true rfl⟩ rfl rfl) (z_preVR jK jP [1] rfl rfl rfl) rfl rfl jl.1 rfl (lv_room (Nat.le_of_ble_eq_true rfl)) d_SC_describe_4 ⟨Nat.le_of_ble_eq_true rfl, Nat.le_of_ble_eq_true rfl⟩) (fun z4 hz4 => ?_)
  rcases hz4 with ⟨rfl, hq4⟩ | ⟨rfl, hq4⟩
  ·
    refine z_if_ne (tgt := 12) jx jb d_SC_describe_7 (by decide) ⟨by decide, by decide⟩ (fun hc7 => ?_) (fun hc7 => ?_)
    ·
      refine lv_aload_n jx jb d_SC_describe_12 rfl (lv_at jl 0 rfl) ?_
      refine va_get (D := D) (ci := 3) (v := .ref qs) (C := R_SC) (T := F_SC) (N := 8) jx jb jts i_SC jown jK.1 jP 0 rfl rfl 3 (by decide) (jts _ fl_SC_26) (fun _ h9 => h9) rfl d_SC_describe_13 ?_
      refine lv_aload_n jx jb d_SC_describe_16 rfl (lv_at jl 0 rfl) ?_
      refine va_get (D := D) (ci := 3) (v := .ref qo) (C := R_SC) (T := F_SC) (N := 8) jx jb jts i_SC jown jK.1 jP 0 rfl rfl 5 (by decide) (jts _ fl_SC_37) (fun _ h9 => h9) rfl d_SC_describe_17 ?_
      refine z_backv (wr := [(g, .inr (3, [.ref qc, .ref qp, .ref qi, .ref qs, .ref qr, .ref qo, .ref qx, .int (iZ ps)]))]) jP jD jS jA [1, 2, 3, 4] [0] rfl rfl (by decide) (by decide) (va_runS (As := [.ref qs, .ref qo]) (rest := []) ⟨jx, jb, jml, jown, jts⟩ (c_SW_putShare l D cI cB cZ H.size qs pP pS pB pA pC pF pN o gP qo bo Lo hdo hno ovo tso tbo fo (by first | assumption | omega) (by omega) (hsum (by omega)) (hfr)) (zc_S 2 jts cd_ShareWriter_putShare lk_SC_95 st_ShareWriter_putShare in_ShareWriter hd_ShareWriter_putShare ⟨Nat.le_of_ble_eq_true rfl, Nat.le_of_ble_eq_true rfl⟩ rfl rfl) (z_preS jK jP jD [1, 2, 3, 4] (by decide) rfl rfl) rfl rfl jl.1 rfl (lv_room (Nat.le_of_ble_eq_true rfl)) d_SC_describe_20 ⟨Nat.le_of_ble_eq_true rfl, Nat.le_of_ble_eq_true rfl⟩) (fun u20 H locs hu20 jP jD jS => ?_)
      obtain ⟨L1_20, hd1_20, hn1_20, ov1_20, f1_20⟩ := u20
      have jP : va_P D classes [(g, .inr (3, [.ref qc, .ref qp, .ref qi, .ref qs, .ref qr, .ref qo, .ref qx, .int (iZ ps)])), (qs, .inr (1, [.ref pP, .ref pS, .ref pB, .ref pA, .ref pC, .ref pF, .ref pN, .int (iZ (o : Int))])), (pP, .inl (cI, 256, .inl (zA gP))), (qo, .inr (0, [.ref bo, .int (iZ L1_20), .int (iZ hd1_20), .int (iZ hn1_20), .int (iZ ov1_20), .int (iZ tso), .int (iZ tbo)])), (bo, .inl (cB, 6000, .inl (zA f1_20)))] H := jP.sub [0, 1, 2, 3, 4] rfl
      have jD : va_D A [(g, .inr (3, [.ref qc, .ref qp, .ref qi, .ref qs, .ref qr, .ref qo, .ref qx, .int (iZ ps)])), (qs, .inr (1, [.ref pP, .ref pS, .ref pB, .ref pA, .ref pC, .ref pF, .ref pN, .int (iZ (o : Int))])), (pP, .inl (cI, 256, .inl (zA gP))), (qo, .inr (0, [.ref bo, .int (iZ L1_20), .int (iZ hd1_20), .int (iZ hn1_20), .int (iZ ov1_20), .int (iZ tso), .int (iZ tbo)])), (bo, .inl (cB, 6000, .inl (zA f1_20)))] := jD.sub [0, 1, 2, 3, 4] (by decide) rfl
      refine lv_aload_n jx jb d_SC_describe_23 rfl (lv_at jl 0 rfl) ?_
      refine va_get (D := D) (ci := 3) (v := .ref qo) (C := R_SC) (T := F_SC) (N := 8) jx jb jts i_SC jown jK.1 jP 0 rfl rfl 5 (by decide) (jts _ fl_SC_37) (fun _ h9 => h9) rfl d_SC_describe_24 ?_
      refine z_backe (va_runV (As := []) (rest := []) ⟨jx, jb, jml, jown, jts⟩ (c_Row_length l D cI cB cZ qo bo L1_20 hd1_20 hn1_20 ov1_20 tso tbo) (zc_V 0 jts cd_Row_length lk_SC_43 im_Row_length se_Row_length in_Row hd_Row_length ⟨Nat.le_of_ble_eq_true rfl, Nat.le_of_ble_eq_true rfl⟩ rfl rfl) (z_preVR jK jP [3] rfl rfl rfl) rfl rfl jl.1 rfl (lv_room (Nat.le_of_ble_eq_true rfl)) d_SC_describe_27 ⟨Nat.le_of_ble_eq_true rfl, Nat.le_of_ble_eq_true rfl⟩) ?_
      exact jret _ _ _ (L1_20, hd1_20, hn1_20, ov1_20, f1_20) _ _ (Or.inl rfl) (Or.inr ⟨rfl, by omega, hu20⟩) (jP.sub [0, 1, 2, 3, 4] rfl) (jD.sub [0, 1, 2, 3, 4] (by decide) rfl) jS d_SC_describe_30
    ·
      exact absurd hc7 (by decide)
  ·
    refine z_if_ne (tgt := 12) jx jb d_SC_describe_7 (by decide) ⟨by decide, by decide⟩ (fun hc7 => ?_) (fun hc7 => ?_)
    ·
      exact absurd hc7 (by decide)
    ·
      refine lv_iconst (v := iZ (-1)) jx jb d_SC_describe_10 rfl ?_
      exact jret _ _ _ (Lo, hdo, hno, ovo, fo) _ _ (Or.inl rfl) (Or.inl ⟨rfl, by omega, rfl, rfl, rfl, rfl, rfl⟩) (jP.sub [0, 1, 2, 3, 4] rfl) (jD.sub [0, 1, 2, 3, 4] (by decide) rfl) jS d_SC_describe_11
