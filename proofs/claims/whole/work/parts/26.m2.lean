theorem fl_Mod_77 : Cond.fieldLink R_Mod 77 "StateCoderModel" "bitsPut" "I" ∈ zT := zT_of (List.mem_of_getElem? (i := 494) (by decide +kernel)) rfl
theorem cd_Mod_bitsFor : Cond.code y_Mod_bitsFor b_Mod_bitsFor 2 (some .int) ∈ zT := zT_of (List.mem_of_getElem? (i := 611) (by decide +kernel)) rfl
theorem hd_Mod_bitsFor : y_Mod_bitsFor.cls ≠ "java/lang/invoke/MethodHandle" ∧ y_Mod_bitsFor.cls ≠ "java/lang/invoke/VarHandle" ∧ (parseMethodDescriptor y_Mod_bitsFor.desc).map (fun d => d.parameters.length) = some 1 := by decide +kernel
theorem lk_Mod_80 : Cond.methodLink R_Mod 80 y_Mod_bitsFor ∈ zT := zT_of (List.mem_of_getElem? (i := 609) (by decide +kernel)) rfl
theorem st_Mod_bitsFor : Cond.static y_Mod_bitsFor ∈ zT := zT_of (List.mem_of_getElem? (i := 610) (by decide +kernel)) rfl
theorem cd_Mod_put : Cond.code y_Mod_put b_Mod_put 4 none ∈ zT := zT_of (List.mem_of_getElem? (i := 604) (by decide +kernel)) rfl
theorem hd_Mod_put : y_Mod_put.cls ≠ "java/lang/invoke/MethodHandle" ∧ y_Mod_put.cls ≠ "java/lang/invoke/VarHandle" ∧ (parseMethodDescriptor y_Mod_put.desc).map (fun d => d.parameters.length) = some 2 := by decide +kernel
theorem lk_Mod_83 : Cond.methodLink R_Mod 83 y_Mod_put ∈ zT := zT_of (List.mem_of_getElem? (i := 601) (by decide +kernel)) rfl
theorem im_Mod_put : Cond.instanceMethod y_Mod_put ∈ zT := zT_of (List.mem_of_getElem? (i := 603) (by decide +kernel)) rfl
theorem se_Mod_put : Cond.selects R_Mod y_Mod_put y_Mod_put ∈ zT := zT_of (List.mem_of_getElem? (i := 18) (by decide +kernel)) rfl
theorem fl_Mod_96 : Cond.fieldLink R_Mod 96 "StateCoderModel" "bitsRead" "I" ∈ zT := zT_of (List.mem_of_getElem? (i := 495) (by decide +kernel)) rfl
theorem fl_Mod_7 : Cond.fieldLink R_Mod 7 "StateCoderModel" "in" "[I" ∈ zT := zT_of (List.mem_of_getElem? (i := 482) (by decide +kernel)) rfl
theorem cd_Mod_take : Cond.code y_Mod_take b_Mod_take 5 (some .int) ∈ zT := zT_of (List.mem_of_getElem? (i := 623) (by decide +kernel)) rfl
theorem hd_Mod_take : y_Mod_take.cls ≠ "java/lang/invoke/MethodHandle" ∧ y_Mod_take.cls ≠ "java/lang/invoke/VarHandle" ∧ (parseMethodDescriptor y_Mod_take.desc).map (fun d => d.parameters.length) = some 1 := by decide +kernel
theorem lk_Mod_99 : Cond.methodLink R_Mod 99 y_Mod_take ∈ zT := zT_of (List.mem_of_getElem? (i := 620) (by decide +kernel)) rfl
theorem im_Mod_take : Cond.instanceMethod y_Mod_take ∈ zT := zT_of (List.mem_of_getElem? (i := 622) (by decide +kernel)) rfl
theorem se_Mod_take : Cond.selects R_Mod y_Mod_take y_Mod_take ∈ zT := zT_of (List.mem_of_getElem? (i := 21) (by decide +kernel)) rfl
theorem d_Mod_beginOut_0 : decode b_Mod_beginOut 0 = .ok (.iconst 0, 1) := by decide +kernel
theorem d_Mod_beginOut_1 : decode b_Mod_beginOut 1 = .ok (.istore_n 1, 1) := by decide +kernel
theorem d_Mod_beginOut_2 : decode b_Mod_beginOut 2 = .ok (.iload_n 1, 1) := by decide +kernel
theorem d_Mod_beginOut_3 : decode b_Mod_beginOut 3 = .ok (.sipush 6000, 3) := by decide +kernel
theorem d_Mod_beginOut_6 : decode b_Mod_beginOut 6 = .ok (.if_icmp .ge 16, 3) := by decide +kernel
theorem d_Mod_beginOut_9 : decode b_Mod_beginOut 9 = .ok (.aload_n 0, 1) := by decide +kernel
theorem d_Mod_beginOut_10 : decode b_Mod_beginOut 10 = .ok (.getfield 13, 3) := by decide +kernel
theorem d_Mod_beginOut_13 : decode b_Mod_beginOut 13 = .ok (.iload_n 1, 1) := by decide +kernel
theorem d_Mod_beginOut_14 : decode b_Mod_beginOut 14 = .ok (.iconst 0, 1) := by decide +kernel
theorem d_Mod_beginOut_15 : decode b_Mod_beginOut 15 = .ok (.iastore, 1) := by decide +kernel
theorem d_Mod_beginOut_16 : decode b_Mod_beginOut 16 = .ok (.iinc 1 1, 3) := by decide +kernel
theorem d_Mod_beginOut_19 : decode b_Mod_beginOut 19 = .ok (.goto (-17), 3) := by decide +kernel
theorem d_Mod_beginOut_22 : decode b_Mod_beginOut 22 = .ok (.aload_n 0, 1) := by decide +kernel
theorem d_Mod_beginOut_23 : decode b_Mod_beginOut 23 = .ok (.iconst 0, 1) := by decide +kernel
theorem d_Mod_beginOut_24 : decode b_Mod_beginOut 24 = .ok (.putfield 77, 3) := by decide +kernel
theorem d_Mod_beginOut_27 : decode b_Mod_beginOut 27 = .ok (.return_, 1) := by decide +kernel
theorem d_Mod_endOut_0 : decode b_Mod_endOut 0 = .ok (.aload_n 0, 1) := by decide +kernel
theorem d_Mod_endOut_1 : decode b_Mod_endOut 1 = .ok (.aload_n 0, 1) := by decide +kernel
theorem d_Mod_endOut_2 : decode b_Mod_endOut 2 = .ok (.getfield 77, 3) := by decide +kernel
theorem d_Mod_endOut_5 : decode b_Mod_endOut 5 = .ok (.bipush 7, 2) := by decide +kernel
theorem d_Mod_endOut_7 : decode b_Mod_endOut 7 = .ok (.iadd, 1) := by decide +kernel
theorem d_Mod_endOut_8 : decode b_Mod_endOut 8 = .ok (.bipush 8, 2) := by decide +kernel
theorem d_Mod_endOut_10 : decode b_Mod_endOut 10 = .ok (.idiv, 1) := by decide +kernel
theorem d_Mod_endOut_11 : decode b_Mod_endOut 11 = .ok (.putfield 39, 3) := by decide +kernel
theorem d_Mod_endOut_14 : decode b_Mod_endOut 14 = .ok (.aload_n 0, 1) := by decide +kernel
theorem d_Mod_endOut_15 : decode b_Mod_endOut 15 = .ok (.getfield 39, 3) := by decide +kernel
theorem d_Mod_endOut_18 : decode b_Mod_endOut 18 = .ok (.ireturn, 1) := by decide +kernel
theorem d_Mod_put_0 : decode b_Mod_put 0 = .ok (.iconst 0, 1) := by decide +kernel
theorem d_Mod_put_1 : decode b_Mod_put 1 = .ok (.istore_n 3, 1) := by decide +kernel
theorem d_Mod_put_2 : decode b_Mod_put 2 = .ok (.iload_n 3, 1) := by decide +kernel
theorem d_Mod_put_3 : decode b_Mod_put 3 = .ok (.iload_n 2, 1) := by decide +kernel
theorem d_Mod_put_4 : decode b_Mod_put 4 = .ok (.if_icmp .ge 47, 3) := by decide +kernel
theorem d_Mod_put_7 : decode b_Mod_put 7 = .ok (.aload_n 0, 1) := by decide +kernel
theorem d_Mod_put_8 : decode b_Mod_put 8 = .ok (.getfield 13, 3) := by decide +kernel
theorem d_Mod_put_11 : decode b_Mod_put 11 = .ok (.aload_n 0, 1) := by decide +kernel
theorem d_Mod_put_12 : decode b_Mod_put 12 = .ok (.getfield 77, 3) := by decide +kernel
theorem d_Mod_put_15 : decode b_Mod_put 15 = .ok (.bipush 8, 2) := by decide +kernel
theorem d_Mod_put_17 : decode b_Mod_put 17 = .ok (.idiv, 1) := by decide +kernel
theorem d_Mod_put_18 : decode b_Mod_put 18 = .ok (.dup2, 1) := by decide +kernel
theorem d_Mod_put_19 : decode b_Mod_put 19 = .ok (.iaload, 1) := by decide +kernel
theorem d_Mod_put_20 : decode b_Mod_put 20 = .ok (.iload_n 1, 1) := by decide +kernel
theorem d_Mod_put_21 : decode b_Mod_put 21 = .ok (.iload_n 3, 1) := by decide +kernel
theorem d_Mod_put_22 : decode b_Mod_put 22 = .ok (.ishr, 1) := by decide +kernel
theorem d_Mod_put_23 : decode b_Mod_put 23 = .ok (.iconst 1, 1) := by decide +kernel
theorem d_Mod_put_24 : decode b_Mod_put 24 = .ok (.iand, 1) := by decide +kernel
theorem d_Mod_put_25 : decode b_Mod_put 25 = .ok (.aload_n 0, 1) := by decide +kernel
theorem d_Mod_put_26 : decode b_Mod_put 26 = .ok (.getfield 77, 3) := by decide +kernel
theorem d_Mod_put_29 : decode b_Mod_put 29 = .ok (.bipush 8, 2) := by decide +kernel
theorem d_Mod_put_31 : decode b_Mod_put 31 = .ok (.irem, 1) := by decide +kernel
theorem d_Mod_put_32 : decode b_Mod_put 32 = .ok (.ishl, 1) := by decide +kernel
theorem d_Mod_put_33 : decode b_Mod_put 33 = .ok (.iadd, 1) := by decide +kernel
theorem d_Mod_put_34 : decode b_Mod_put 34 = .ok (.iastore, 1) := by decide +kernel
theorem d_Mod_put_35 : decode b_Mod_put 35 = .ok (.aload_n 0, 1) := by decide +kernel
theorem d_Mod_put_36 : decode b_Mod_put 36 = .ok (.dup, 1) := by decide +kernel
theorem d_Mod_put_37 : decode b_Mod_put 37 = .ok (.getfield 77, 3) := by decide +kernel
theorem d_Mod_put_40 : decode b_Mod_put 40 = .ok (.iconst 1, 1) := by decide +kernel
theorem d_Mod_put_41 : decode b_Mod_put 41 = .ok (.iadd, 1) := by decide +kernel
theorem d_Mod_put_42 : decode b_Mod_put 42 = .ok (.putfield 77, 3) := by decide +kernel
theorem d_Mod_put_45 : decode b_Mod_put 45 = .ok (.iinc 3 1, 3) := by decide +kernel
theorem d_Mod_put_48 : decode b_Mod_put 48 = .ok (.goto (-46), 3) := by decide +kernel
theorem d_Mod_put_51 : decode b_Mod_put 51 = .ok (.return_, 1) := by decide +kernel
theorem d_Mod_putNumber_0 : decode b_Mod_putNumber 0 = .ok (.iload_n 2, 1) := by decide +kernel
theorem d_Mod_putNumber_1 : decode b_Mod_putNumber 1 = .ok (.invokestatic 80, 3) := by decide +kernel
theorem d_Mod_putNumber_4 : decode b_Mod_putNumber 4 = .ok (.istore_n 3, 1) := by decide +kernel
theorem d_Mod_putNumber_5 : decode b_Mod_putNumber 5 = .ok (.iconst 1, 1) := by decide +kernel
theorem d_Mod_putNumber_6 : decode b_Mod_putNumber 6 = .ok (.iload_n 3, 1) := by decide +kernel
theorem d_Mod_putNumber_7 : decode b_Mod_putNumber 7 = .ok (.ishl, 1) := by decide +kernel
theorem d_Mod_putNumber_8 : decode b_Mod_putNumber 8 = .ok (.istore 4, 2) := by decide +kernel
theorem d_Mod_putNumber_10 : decode b_Mod_putNumber 10 = .ok (.iconst 2, 1) := by decide +kernel
theorem d_Mod_putNumber_11 : decode b_Mod_putNumber 11 = .ok (.iload 4, 2) := by decide +kernel
theorem d_Mod_putNumber_13 : decode b_Mod_putNumber 13 = .ok (.imul, 1) := by decide +kernel
theorem d_Mod_putNumber_14 : decode b_Mod_putNumber 14 = .ok (.iconst 2, 1) := by decide +kernel
theorem d_Mod_putNumber_15 : decode b_Mod_putNumber 15 = .ok (.isub, 1) := by decide +kernel
theorem d_Mod_putNumber_16 : decode b_Mod_putNumber 16 = .ok (.iload_n 2, 1) := by decide +kernel
theorem d_Mod_putNumber_17 : decode b_Mod_putNumber 17 = .ok (.isub, 1) := by decide +kernel
theorem d_Mod_putNumber_18 : decode b_Mod_putNumber 18 = .ok (.istore 5, 2) := by decide +kernel
theorem d_Mod_putNumber_20 : decode b_Mod_putNumber 20 = .ok (.iload_n 1, 1) := by decide +kernel
theorem d_Mod_putNumber_21 : decode b_Mod_putNumber 21 = .ok (.iload 5, 2) := by decide +kernel
theorem d_Mod_putNumber_23 : decode b_Mod_putNumber 23 = .ok (.if_icmp .ge 12, 3) := by decide +kernel
theorem d_Mod_putNumber_26 : decode b_Mod_putNumber 26 = .ok (.aload_n 0, 1) := by decide +kernel
theorem d_Mod_putNumber_27 : decode b_Mod_putNumber 27 = .ok (.iload_n 1, 1) := by decide +kernel
theorem d_Mod_putNumber_28 : decode b_Mod_putNumber 28 = .ok (.iload_n 3, 1) := by decide +kernel
theorem d_Mod_putNumber_29 : decode b_Mod_putNumber 29 = .ok (.invokevirtual 83, 3) := by decide +kernel
theorem d_Mod_putNumber_32 : decode b_Mod_putNumber 32 = .ok (.goto 24, 3) := by decide +kernel
theorem d_Mod_putNumber_35 : decode b_Mod_putNumber 35 = .ok (.aload_n 0, 1) := by decide +kernel
theorem d_Mod_putNumber_36 : decode b_Mod_putNumber 36 = .ok (.iload_n 1, 1) := by decide +kernel
theorem d_Mod_putNumber_37 : decode b_Mod_putNumber 37 = .ok (.iload 4, 2) := by decide +kernel
theorem d_Mod_putNumber_39 : decode b_Mod_putNumber 39 = .ok (.if_icmp .ge 7, 3) := by decide +kernel
theorem d_Mod_putNumber_42 : decode b_Mod_putNumber 42 = .ok (.iload_n 1, 1) := by decide +kernel
theorem d_Mod_putNumber_43 : decode b_Mod_putNumber 43 = .ok (.goto 7, 3) := by decide +kernel
theorem d_Mod_putNumber_46 : decode b_Mod_putNumber 46 = .ok (.iload_n 1, 1) := by decide +kernel
theorem d_Mod_putNumber_47 : decode b_Mod_putNumber 47 = .ok (.iload 5, 2) := by decide +kernel
theorem d_Mod_putNumber_49 : decode b_Mod_putNumber 49 = .ok (.iadd, 1) := by decide +kernel
theorem d_Mod_putNumber_50 : decode b_Mod_putNumber 50 = .ok (.iload_n 3, 1) := by decide +kernel
theorem d_Mod_putNumber_51 : decode b_Mod_putNumber 51 = .ok (.iconst 1, 1) := by decide +kernel
theorem d_Mod_putNumber_52 : decode b_Mod_putNumber 52 = .ok (.iadd, 1) := by decide +kernel
theorem d_Mod_putNumber_53 : decode b_Mod_putNumber 53 = .ok (.invokevirtual 83, 3) := by decide +kernel
theorem d_Mod_putNumber_56 : decode b_Mod_putNumber 56 = .ok (.return_, 1) := by decide +kernel
theorem d_Mod_take_0 : decode b_Mod_take 0 = .ok (.bipush 8, 2) := by decide +kernel
theorem d_Mod_take_2 : decode b_Mod_take 2 = .ok (.aload_n 0, 1) := by decide +kernel
theorem d_Mod_take_3 : decode b_Mod_take 3 = .ok (.getfield 42, 3) := by decide +kernel
theorem d_Mod_take_6 : decode b_Mod_take 6 = .ok (.imul, 1) := by decide +kernel
theorem d_Mod_take_7 : decode b_Mod_take 7 = .ok (.aload_n 0, 1) := by decide +kernel
theorem d_Mod_take_8 : decode b_Mod_take 8 = .ok (.getfield 96, 3) := by decide +kernel
theorem d_Mod_take_11 : decode b_Mod_take 11 = .ok (.iadd, 1) := by decide +kernel
theorem d_Mod_take_12 : decode b_Mod_take 12 = .ok (.iload_n 1, 1) := by decide +kernel
theorem d_Mod_take_13 : decode b_Mod_take 13 = .ok (.iadd, 1) := by decide +kernel
theorem d_Mod_take_14 : decode b_Mod_take 14 = .ok (.bipush 8, 2) := by decide +kernel
theorem d_Mod_take_16 : decode b_Mod_take 16 = .ok (.aload_n 0, 1) := by decide +kernel
theorem d_Mod_take_17 : decode b_Mod_take 17 = .ok (.getfield 35, 3) := by decide +kernel
theorem d_Mod_take_20 : decode b_Mod_take 20 = .ok (.imul, 1) := by decide +kernel
theorem d_Mod_take_21 : decode b_Mod_take 21 = .ok (.if_icmp .le 5, 3) := by decide +kernel
theorem d_Mod_take_24 : decode b_Mod_take 24 = .ok (.iconst (-1), 1) := by decide +kernel
theorem d_Mod_take_25 : decode b_Mod_take 25 = .ok (.ireturn, 1) := by decide +kernel
theorem d_Mod_take_26 : decode b_Mod_take 26 = .ok (.iconst 0, 1) := by decide +kernel
theorem d_Mod_take_27 : decode b_Mod_take 27 = .ok (.istore_n 2, 1) := by decide +kernel
theorem d_Mod_take_28 : decode b_Mod_take 28 = .ok (.iconst 0, 1) := by decide +kernel
theorem d_Mod_take_29 : decode b_Mod_take 29 = .ok (.istore_n 3, 1) := by decide +kernel
theorem d_Mod_take_30 : decode b_Mod_take 30 = .ok (.iload_n 3, 1) := by decide +kernel
theorem d_Mod_take_31 : decode b_Mod_take 31 = .ok (.iload_n 1, 1) := by decide +kernel
theorem d_Mod_take_32 : decode b_Mod_take 32 = .ok (.if_icmp .ge 48, 3) := by decide +kernel
theorem d_Mod_take_35 : decode b_Mod_take 35 = .ok (.bipush 8, 2) := by decide +kernel
theorem d_Mod_take_37 : decode b_Mod_take 37 = .ok (.aload_n 0, 1) := by decide +kernel
theorem d_Mod_take_38 : decode b_Mod_take 38 = .ok (.getfield 42, 3) := by decide +kernel
theorem d_Mod_take_41 : decode b_Mod_take 41 = .ok (.imul, 1) := by decide +kernel
theorem d_Mod_take_42 : decode b_Mod_take 42 = .ok (.aload_n 0, 1) := by decide +kernel
theorem d_Mod_take_43 : decode b_Mod_take 43 = .ok (.getfield 96, 3) := by decide +kernel
theorem d_Mod_take_46 : decode b_Mod_take 46 = .ok (.iadd, 1) := by decide +kernel
theorem d_Mod_take_47 : decode b_Mod_take 47 = .ok (.iload_n 3, 1) := by decide +kernel
theorem d_Mod_take_48 : decode b_Mod_take 48 = .ok (.iadd, 1) := by decide +kernel
theorem d_Mod_take_49 : decode b_Mod_take 49 = .ok (.istore 4, 2) := by decide +kernel
theorem d_Mod_take_51 : decode b_Mod_take 51 = .ok (.iload_n 2, 1) := by decide +kernel
theorem d_Mod_take_52 : decode b_Mod_take 52 = .ok (.aload_n 0, 1) := by decide +kernel
theorem d_Mod_take_53 : decode b_Mod_take 53 = .ok (.getfield 7, 3) := by decide +kernel
theorem d_Mod_take_56 : decode b_Mod_take 56 = .ok (.iload 4, 2) := by decide +kernel
theorem d_Mod_take_58 : decode b_Mod_take 58 = .ok (.bipush 8, 2) := by decide +kernel
theorem d_Mod_take_60 : decode b_Mod_take 60 = .ok (.idiv, 1) := by decide +kernel
theorem d_Mod_take_61 : decode b_Mod_take 61 = .ok (.iaload, 1) := by decide +kernel
theorem d_Mod_take_62 : decode b_Mod_take 62 = .ok (.iload 4, 2) := by decide +kernel
theorem d_Mod_take_64 : decode b_Mod_take 64 = .ok (.bipush 8, 2) := by decide +kernel
theorem d_Mod_take_66 : decode b_Mod_take 66 = .ok (.irem, 1) := by decide +kernel
theorem d_Mod_take_67 : decode b_Mod_take 67 = .ok (.ishr, 1) := by decide +kernel
theorem d_Mod_take_68 : decode b_Mod_take 68 = .ok (.iconst 1, 1) := by decide +kernel
theorem d_Mod_take_69 : decode b_Mod_take 69 = .ok (.iand, 1) := by decide +kernel
theorem d_Mod_take_70 : decode b_Mod_take 70 = .ok (.iload_n 3, 1) := by decide +kernel
theorem d_Mod_take_71 : decode b_Mod_take 71 = .ok (.ishl, 1) := by decide +kernel
theorem d_Mod_take_72 : decode b_Mod_take 72 = .ok (.ior, 1) := by decide +kernel
theorem d_Mod_take_73 : decode b_Mod_take 73 = .ok (.istore_n 2, 1) := by decide +kernel
theorem d_Mod_take_74 : decode b_Mod_take 74 = .ok (.iinc 3 1, 3) := by decide +kernel
theorem d_Mod_take_77 : decode b_Mod_take 77 = .ok (.goto (-47), 3) := by decide +kernel
theorem d_Mod_take_80 : decode b_Mod_take 80 = .ok (.aload_n 0, 1) := by decide +kernel
theorem d_Mod_take_81 : decode b_Mod_take 81 = .ok (.dup, 1) := by decide +kernel
theorem d_Mod_take_82 : decode b_Mod_take 82 = .ok (.getfield 96, 3) := by decide +kernel
theorem d_Mod_take_85 : decode b_Mod_take 85 = .ok (.iload_n 1, 1) := by decide +kernel
theorem d_Mod_take_86 : decode b_Mod_take 86 = .ok (.iadd, 1) := by decide +kernel
theorem d_Mod_take_87 : decode b_Mod_take 87 = .ok (.putfield 96, 3) := by decide +kernel
theorem d_Mod_take_90 : decode b_Mod_take 90 = .ok (.iload_n 2, 1) := by decide +kernel
theorem d_Mod_take_91 : decode b_Mod_take 91 = .ok (.ireturn, 1) := by decide +kernel
theorem d_Mod_bitsAt_0 : decode b_Mod_bitsAt 0 = .ok (.aload_n 0, 1) := by decide +kernel
theorem d_Mod_bitsAt_1 : decode b_Mod_bitsAt 1 = .ok (.iload_n 1, 1) := by decide +kernel
theorem d_Mod_bitsAt_2 : decode b_Mod_bitsAt 2 = .ok (.putfield 96, 3) := by decide +kernel
theorem d_Mod_bitsAt_5 : decode b_Mod_bitsAt 5 = .ok (.aload_n 0, 1) := by decide +kernel
theorem d_Mod_bitsAt_6 : decode b_Mod_bitsAt 6 = .ok (.iload_n 2, 1) := by decide +kernel
theorem d_Mod_bitsAt_7 : decode b_Mod_bitsAt 7 = .ok (.invokevirtual 99, 3) := by decide +kernel
theorem d_Mod_bitsAt_10 : decode b_Mod_bitsAt 10 = .ok (.ireturn, 1) := by decide +kernel
abbrev rm_M_beginOut : Room := { frames := 0, cells := 0, slots := 0, locals := 0 }
set_option maxHeartbeats 4000000 in
set_option maxRecDepth 100000 in
theorem c_M_beginOut (l : Launch) (D : va_G) (cI cB cZ : ClassId) (sz : Nat) (r : Nat) (ri : Nat) (ro : Nat) (rc : Nat) (rp : Nat) (rs : Nat) (rd : Nat) (rk : Nat) (rh : Nat) (iL : Int) (go : Int) (oL : Int) (o : Nat) (bP : Int) (bR : Int) (xo : Nat → Int) : Met l y_Mod_beginOut (.code y_Mod_beginOut b_Mod_beginOut 2 none :: zT) rm_M_beginOut (zPc D classes (TY cI cB cZ) [(r, .inr (4, [.ref ri, .int (iZ iL), .int (iZ go), .ref ro, .int (iZ oL), .ref rc, .int (iZ (o : Int)), .ref rp, .ref rs, .ref rd, .ref rk, .ref rh, .int (iZ bP), .int (iZ bR)])), (ro, .inl (cI, 6000, .inl (zA xo)))] sz [.ref r]) (zFv (S := Nat → Int) D classes (fun u => mO 0 0 u) (fun u => [(r, .inr (4, [.ref ri, .int (iZ iL), .int (iZ go), .ref ro, .int (iZ oL), .ref rc, .int (iZ (o : Int)), .ref rp, .ref rs, .ref rd, .ref rk, .ref rh, .int (iZ 0), .int (iZ bR)])), (ro, .inl (cI, 6000, .inl (zA u)))]) (va_A [(r, .inr (4, [.ref ri, .int (iZ iL), .int (iZ go), .ref ro, .int (iZ oL), .ref rc, .int (iZ (o : Int)), .ref rp, .ref rs, .ref rd, .ref rk, .ref rh, .int (iZ bP), .int (iZ bR)])), (ro, .inl (cI, 6000, .inl (zA xo)))] sz)) 0 0 (va_A [(r, .inr (4, [.ref ri, .int (iZ iL), .int (iZ go), .ref ro, .int (iZ oL), .ref rc, .int (iZ (o : Int)), .ref rp, .ref rs, .ref rd, .ref rk, .ref rh, .int (iZ bP), .int (iZ bR)])), (ro, .inl (cI, 6000, .inl (zA xo)))] sz) := by
  refine z_ofv (by decide) (Nat.le_of_ble_eq_true rfl) rfl ?_
  intro p e s m args below meth c A Q E jmn jA jK jret H locs jP jD jS ls jl
  obtain ⟨jx, jb, jrt, jml, jown, jts, jlk⟩ := E
  have jown : s.vm.findClass R_Mod = some m.cls := jown
  have jl : lv_has ls 2 [(0, .ref r)] := jl
  refine lv_iconst (v := iZ 0) jx jb d_Mod_beginOut_0 rfl ?_
  refine lv_istore_n (lv' := [(1, .int (iZ 0)), (0, .ref r)]) jx jb d_Mod_beginOut_1 rfl jl (by decide) rfl (fun ls jl => ?_)
  have hloop2 : ∀ (nF : Nat) (i : Nat) (x2 : Nat → Int), 6000 - i < nF → (i ≤ 6000) → (∀ k, k < i → x2 k = 0) → ∀ (H : Heap) (locs : List Loc), va_P D classes [(r, .inr (4, [.ref ri, .int (iZ iL), .int (iZ go), .ref ro, .int (iZ oL), .ref rc, .int (iZ (o : Int)), .ref rp, .ref rs, .ref rd, .ref rk, .ref rh, .int (iZ bP), .int (iZ bR)])), (ro, .inl (cI, 6000, .inl (zA x2)))] H → va_D A [(r, .inr (4, [.ref ri, .int (iZ iL), .int (iZ go), .ref ro, .int (iZ oL), .ref rc, .int (iZ (o : Int)), .ref rp, .ref rs, .ref rd, .ref rk, .ref rh, .int (iZ bP), .int (iZ bR)])), (ro, .inl (cI, 6000, .inl (zA x2)))] → va_S A s.heap H locs → ∀ ls : Array Slot, lv_has ls 2 [(0, .ref r), (1, .int (iZ (i : Int)))] → W p l e rm_M_beginOut s m args below meth c H locs 0 0 Q (F0 m 2 ls []) := by
    intro nF
    induction nF with
    | zero => intro i x2 hm; exact absurd hm (Nat.not_lt_zero _)
    | succ nF ih2 =>
      intro i x2 hm hi hx2 H locs jP jD jS ls jl
      refine lv_iload_n jx jb d_Mod_beginOut_2 rfl (lv_at jl 1 rfl) ?_
      refine lv_sipush (v := iZ 6000) jx jb d_Mod_beginOut_3 (by decide) ?_
      refine z_icmp_ge (tgt := 22) jx jb d_Mod_beginOut_6 (by decide) ⟨⟨by omega, by omega⟩, ⟨by decide, by decide⟩⟩ (fun hc6 => ?_) (fun hc6 => ?_)
      ·
        refine lv_aload_n jx jb d_Mod_beginOut_22 rfl (lv_at jl 0 rfl) ?_
        refine lv_iconst (v := iZ 0) jx jb d_Mod_beginOut_23 rfl ?_
        refine va_put (D := D) (ci := 4) (v := .int (iZ 0)) (ty := .int) (C := R_Mod) (T := F_Mod) (N := 14) jx jb jts i_Mod t_Mod t_Mod_ok n_Mod jown jK.1 jP jD jS 0 rfl rfl 12 (by decide) (jts _ fl_Mod_77) (fun _ h9 => h9) rfl (by decide +kernel) rfl rfl (Nat.le_of_ble_eq_true rfl) d_Mod_beginOut_24 (fun H locs jP jD jS => ?_)
        have jP : va_P D classes [(r, .inr (4, [.ref ri, .int (iZ iL), .int (iZ go), .ref ro, .int (iZ oL), .ref rc, .int (iZ (o : Int)), .ref rp, .ref rs, .ref rd, .ref rk, .ref rh, .int (iZ 0), .int (iZ bR)])), (ro, .inl (cI, 6000, .inl (zA x2)))] H := jP
        have jD : va_D A [(r, .inr (4, [.ref ri, .int (iZ iL), .int (iZ go), .ref ro, .int (iZ oL), .ref rc, .int (iZ (o : Int)), .ref rp, .ref rs, .ref rd, .ref rk, .ref rh, .int (iZ 0), .int (iZ bR)])), (ro, .inl (cI, 6000, .inl (zA x2)))] := jD
        exact jret _ _ (x2) _ _ (mO_begin (fun k h => hx2 k (by omega))) (jP.sub [0, 1] rfl) (jD.sub [0, 1] (by decide) rfl) jS d_Mod_beginOut_27
      ·
        refine lv_aload_n jx jb d_Mod_beginOut_9 rfl (lv_at jl 0 rfl) ?_
        refine va_get (D := D) (ci := 4) (v := .ref ro) (C := R_Mod) (T := F_Mod) (N := 14) jx jb jts i_Mod jown jK.1 jP 0 rfl rfl 3 (by decide) (jts _ fl_Mod_13) (fun _ h9 => h9) rfl d_Mod_beginOut_10 ?_
        refine lv_iload_n jx jb d_Mod_beginOut_13 rfl (lv_at jl 1 rfl) ?_
        refine lv_iconst (v := iZ 0) jx jb d_Mod_beginOut_14 rfl ?_
        refine z_iast jx jb jK.1 jP jD jS 1 0 rfl rfl i (by omega) d_Mod_beginOut_15 (fun H locs jP jD jS => ?_)
        have jP : va_P D classes [(r, .inr (4, [.ref ri, .int (iZ iL), .int (iZ go), .ref ro, .int (iZ oL), .ref rc, .int (iZ (o : Int)), .ref rp, .ref rs, .ref rd, .ref rk, .ref rh, .int (iZ bP), .int (iZ bR)])), (ro, .inl (cI, 6000, .inl (zA (zu x2 i 0))))] H := jP
        have jD : va_D A [(r, .inr (4, [.ref ri, .int (iZ iL), .int (iZ go), .ref ro, .int (iZ oL), .ref rc, .int (iZ (o : Int)), .ref rp, .ref rs, .ref rd, .ref rk, .ref rh, .int (iZ bP), .int (iZ bR)])), (ro, .inl (cI, 6000, .inl (zA (zu x2 i 0))))] := jD
        refine lv_iinc (v := iZ ((i : Int) + 1)) (lv' := [(1, .int (iZ ((i : Int) + 1))), (0, .ref r)]) jx jb d_Mod_beginOut_16 jl (k := 1) rfl (iZ_add _ _) (by decide) rfl (fun ls jl => ?_)
        refine lv_goto (tgt := 2) jx jb d_Mod_beginOut_19 (by decide) ?_
        exact ih2 (i + 1) (zu x2 i 0) (by omega) (by first | assumption | omega) (zu_all (v := fun _ => 0) hx2 rfl) _ _ (jP.sub [0, 1] rfl) (jD.sub [0, 1] (by decide) rfl) jS _ (lv_sub jl [1, 0] rfl)
  exact hloop2 ((6000 - 0) + 1) 0 xo (Nat.lt_succ_self _) (by first | assumption | omega) (fun k h => absurd h (by omega)) _ _ (jP.sub [0, 1] rfl) (jD.sub [0, 1] (by decide) rfl) jS _ (lv_sub jl [1, 0] rfl)
abbrev rm_M_endOut : Room := { frames := 0, cells := 0, slots := 0, locals := 0 }
set_option maxHeartbeats 4000000 in
set_option maxRecDepth 100000 in
theorem c_M_endOut (l : Launch) (D : va_G) (cI cB cZ : ClassId) (sz : Nat) (r : Nat) (ri : Nat) (ro : Nat) (rc : Nat) (rp : Nat) (rs : Nat) (rd : Nat) (rk : Nat) (rh : Nat) (iL : Int) (go : Int) (oL : Int) (o : Nat) (bP : Int) (bR : Int) (hbP : 0 ≤ bP ∧ bP ≤ 48000) : Met l y_Mod_endOut (.code y_Mod_endOut b_Mod_endOut 1 (some .int) :: zT) rm_M_endOut (zPc D classes (TY cI cB cZ) [(r, .inr (4, [.ref ri, .int (iZ iL), .int (iZ go), .ref ro, .int (iZ oL), .ref rc, .int (iZ (o : Int)), .ref rp, .ref rs, .ref rd, .ref rk, .ref rh, .int (iZ bP), .int (iZ bR)]))] sz [.ref r]) (zFi (S := Unit) D classes (fun z _u => z = (bP + 7) / 8) (fun _u => [(r, .inr (4, [.ref ri, .int (iZ iL), .int (iZ go), .ref ro, .int (iZ ((bP + 7) / 8)), .ref rc, .int (iZ (o : Int)), .ref rp, .ref rs, .ref rd, .ref rk, .ref rh, .int (iZ bP), .int (iZ bR)]))]) (va_A [(r, .inr (4, [.ref ri, .int (iZ iL), .int (iZ go), .ref ro, .int (iZ oL), .ref rc, .int (iZ (o : Int)), .ref rp, .ref rs, .ref rd, .ref rk, .ref rh, .int (iZ bP), .int (iZ bR)]))] sz)) 0 0 (va_A [(r, .inr (4, [.ref ri, .int (iZ iL), .int (iZ go), .ref ro, .int (iZ oL), .ref rc, .int (iZ (o : Int)), .ref rp, .ref rs, .ref rd, .ref rk, .ref rh, .int (iZ bP), .int (iZ bR)]))] sz) := by
  refine z_ofi (by decide) (Nat.le_of_ble_eq_true rfl) (Or.inl rfl) ?_
  intro p e s m args below meth c A Q E jA jK jret H locs jP jD jS ls jl
  obtain ⟨jx, jb, jrt, jml, jown, jts, jlk⟩ := E
  have jown : s.vm.findClass R_Mod = some m.cls := jown
  have jl : lv_has ls 1 [(0, .ref r)] := jl
  refine lv_aload_n jx jb d_Mod_endOut_0 rfl (lv_at jl 0 rfl) ?_
  refine lv_aload_n jx jb d_Mod_endOut_1 rfl (lv_at jl 0 rfl) ?_
  refine va_get (D := D) (ci := 4) (v := .int (iZ bP)) (C := R_Mod) (T := F_Mod) (N := 14) jx jb jts i_Mod jown jK.1 jP 0 rfl rfl 12 (by decide) (jts _ fl_Mod_77) (fun _ h9 => h9) rfl d_Mod_endOut_2 ?_
  refine lv_bipush (v := iZ 7) jx jb d_Mod_endOut_5 (by decide) ?_
  refine z_iadd jx jb d_Mod_endOut_7 ?_
  refine lv_bipush (v := iZ 8) jx jb d_Mod_endOut_8 (by decide) ?_
  refine z_idiv jx jb d_Mod_endOut_10 (by omega) ?_
  refine va_put (D := D) (ci := 4) (v := .int (iZ ((bP + 7) / 8))) (ty := .int) (C := R_Mod) (T := F_Mod) (N := 14) jx jb jts i_Mod t_Mod t_Mod_ok n_Mod jown jK.1 jP jD jS 0 rfl rfl 4 (by decide) (jts _ fl_Mod_39) (fun _ h9 => h9) rfl (by decide +kernel) rfl rfl (Nat.le_of_ble_eq_true rfl) d_Mod_endOut_11 (fun H locs jP jD jS => ?_)
  have jP : va_P D classes [(r, .inr (4, [.ref ri, .int (iZ iL), .int (iZ go), .ref ro, .int (iZ ((bP + 7) / 8)), .ref rc, .int (iZ (o : Int)), .ref rp, .ref rs, .ref rd, .ref rk, .ref rh, .int (iZ bP), .int (iZ bR)]))] H := jP
  have jD : va_D A [(r, .inr (4, [.ref ri, .int (iZ iL), .int (iZ go), .ref ro, .int (iZ ((bP + 7) / 8)), .ref rc, .int (iZ (o : Int)), .ref rp, .ref rs, .ref rd, .ref rk, .ref rh, .int (iZ bP), .int (iZ bR)]))] := jD
  refine lv_aload_n jx jb d_Mod_endOut_14 rfl (lv_at jl 0 rfl) ?_
  refine va_get (D := D) (ci := 4) (v := .int (iZ ((bP + 7) / 8))) (C := R_Mod) (T := F_Mod) (N := 14) jx jb jts i_Mod jown jK.1 jP 0 rfl rfl 4 (by decide) (jts _ fl_Mod_39) (fun _ h9 => h9) rfl d_Mod_endOut_15 ?_
  exact jret _ _ _ () _ _ (Or.inl rfl) (rfl) (jP.sub [0] rfl) (jD.sub [0] (by decide) rfl) jS d_Mod_endOut_18
abbrev rm_M_put : Room := { frames := 0, cells := 0, slots := 0, locals := 0 }
set_option maxHeartbeats 4000000 in
set_option maxRecDepth 100000 in
theorem c_M_put (l : Launch) (D : va_G) (cI cB cZ : ClassId) (sz : Nat) (r : Nat) (ri : Nat) (ro : Nat) (rc : Nat) (rp : Nat) (rs : Nat) (rd : Nat) (rk : Nat) (rh : Nat) (iL : Int) (go : Int) (oL : Int) (o : Nat) (bR : Int) (xo : Nat → Int) (V : Nat) (B : Nat) (x : Nat) (n : Nat) (hO : mO V B xo) (hxn : x < 2 ^ n) (hn13 : n ≤ 13) (hB : B + n ≤ 48000) : Met l y_Mod_put (.code y_Mod_put b_Mod_put 4 none :: zT) rm_M_put (zPc D classes (TY cI cB cZ) [(r, .inr (4, [.ref ri, .int (iZ iL), .int (iZ go), .ref ro, .int (iZ oL), .ref rc, .int (iZ (o : Int)), .ref rp, .ref rs, .ref rd, .ref rk, .ref rh, .int (iZ (B : Int)), .int (iZ bR)])), (ro, .inl (cI, 6000, .inl (zA xo)))] sz [.ref r, .int (iZ (x : Int)), .int (iZ (n : Int))]) (zFv (S := Nat → Int) D classes (fun u => mO (V + x * 2 ^ B) (B + n) u) (fun u => [(r, .inr (4, [.ref ri, .int (iZ iL), .int (iZ go), .ref ro, .int (iZ oL), .ref rc, .int (iZ (o : Int)), .ref rp, .ref rs, .ref rd, .ref rk, .ref rh, .int (iZ ((B + n : Nat) : Int)), .int (iZ bR)])), (ro, .inl (cI, 6000, .inl (zA u)))]) (va_A [(r, .inr (4, [.ref ri, .int (iZ iL), .int (iZ go), .ref ro, .int (iZ oL), .ref rc, .int (iZ (o : Int)), .ref rp, .ref rs, .ref rd, .ref rk, .ref rh, .int (iZ (B : Int)), .int (iZ bR)])), (ro, .inl (cI, 6000, .inl (zA xo)))] sz)) 0 0 (va_A [(r, .inr (4, [.ref ri, .int (iZ iL), .int (iZ go), .ref ro, .int (iZ oL), .ref rc, .int (iZ (o : Int)), .ref rp, .ref rs, .ref rd, .ref rk, .ref rh, .int (iZ (B : Int)), .int (iZ bR)])), (ro, .inl (cI, 6000, .inl (zA xo)))] sz) := by
  refine z_ofv (by decide) (Nat.le_of_ble_eq_true rfl) rfl ?_
  intro p e s m args below meth c A Q E jmn jA jK jret H locs jP jD jS ls jl
  obtain ⟨jx, jb, jrt, jml, jown, jts, jlk⟩ := E
  have jown : s.vm.findClass R_Mod = some m.cls := jown
  have hx13 : x < 2 ^ 13 := Nat.lt_of_lt_of_le hxn (Nat.pow_le_pow_right (by decide) hn13)
  have jl : lv_has ls 4 [(0, .ref r), (1, .int (iZ (x : Int))), (2, .int (iZ (n : Int)))] := jl
  refine lv_iconst (v := iZ 0) jx jb d_Mod_put_0 rfl ?_
  refine lv_istore_n (lv' := [(3, .int (iZ 0)), (0, .ref r), (1, .int (iZ (x : Int))), (2, .int (iZ (n : Int)))]) jx jb d_Mod_put_1 rfl jl (by decide) rfl (fun ls jl => ?_)
  have hloop2 : ∀ (nF : Nat) (j : Nat) (x2 : Nat → Int), n - j < nF → (j ≤ n) → (mO (V + x % 2 ^ j * 2 ^ B) (B + j) x2) → ∀ (H : Heap) (locs : List Loc), va_P D classes [(r, .inr (4, [.ref ri, .int (iZ iL), .int (iZ go), .ref ro, .int (iZ oL), .ref rc, .int (iZ (o : Int)), .ref rp, .ref rs, .ref rd, .ref rk, .ref rh, .int (iZ ((B + j : Nat) : Int)), .int (iZ bR)])), (ro, .inl (cI, 6000, .inl (zA x2)))] H → va_D A [(r, .inr (4, [.ref ri, .int (iZ iL), .int (iZ go), .ref ro, .int (iZ oL), .ref rc, .int (iZ (o : Int)), .ref rp, .ref rs, .ref rd, .ref rk, .ref rh, .int (iZ ((B + j : Nat) : Int)), .int (iZ bR)])), (ro, .inl (cI, 6000, .inl (zA x2)))] → va_S A s.heap H locs → ∀ ls : Array Slot, lv_has ls 4 [(0, .ref r), (1, .int (iZ (x : Int))), (2, .int (iZ (n : Int))), (3, .int (iZ (j : Int)))] → W p l e rm_M_put s m args below meth c H locs 0 0 Q (F0 m 2 ls []) := by
    intro nF
    induction nF with
    | zero => intro j x2 hm; exact absurd hm (Nat.not_lt_zero _)
    | succ nF ih2 =>
      intro j x2 hm hj h2 H locs jP jD jS ls jl
      refine lv_iload_n jx jb d_Mod_put_2 rfl (lv_at jl 3 rfl) ?_
      refine lv_iload_n jx jb d_Mod_put_3 rfl (lv_at jl 2 rfl) ?_
      refine z_icmp_ge (tgt := 51) jx jb d_Mod_put_4 (by decide) ⟨⟨by omega, by omega⟩, ⟨by omega, by omega⟩⟩ (fun hc4 => ?_) (fun hc4 => ?_)
      ·
        obtain rfl : j = n := by omega
        exact jret _ _ (x2) _ _ (mO_e h2 hxn) (jP.sub [0, 1] rfl) (jD.sub [0, 1] (by decide) rfl) jS d_Mod_put_51
      ·
        refine lv_aload_n jx jb d_Mod_put_7 rfl (lv_at jl 0 rfl) ?_
        refine va_get (D := D) (ci := 4) (v := .ref ro) (C := R_Mod) (T := F_Mod) (N := 14) jx jb jts i_Mod jown jK.1 jP 0 rfl rfl 3 (by decide) (jts _ fl_Mod_13) (fun _ h9 => h9) rfl d_Mod_put_8 ?_
        refine lv_aload_n jx jb d_Mod_put_11 rfl (lv_at jl 0 rfl) ?_
        refine va_get (D := D) (ci := 4) (v := .int (iZ ((B + j : Nat) : Int))) (C := R_Mod) (T := F_Mod) (N := 14) jx jb jts i_Mod jown jK.1 jP 0 rfl rfl 12 (by decide) (jts _ fl_Mod_77) (fun _ h9 => h9) rfl d_Mod_put_12 ?_
        refine lv_bipush (v := iZ 8) jx jb d_Mod_put_15 (by decide) ?_
        refine z_idiv jx jb d_Mod_put_17 (by omega) ?_
        refine lv_dup2_11 jx jb d_Mod_put_18 rfl rfl ?_
        refine z_iald jx jb jK.1 jP 1 0 rfl rfl ((B + j) / 8) (by omega) d_Mod_put_19 ?_
        refine lv_iload_n jx jb d_Mod_put_20 rfl (lv_at jl 1 rfl) ?_
        refine lv_iload_n jx jb d_Mod_put_21 rfl (lv_at jl 3 rfl) ?_
        refine z_ishr jx jb d_Mod_put_22 j (2 ^ j) (rfl) (by omega) ?_
        refine lv_iconst (v := iZ 1) jx jb d_Mod_put_23 rfl ?_
        refine z_iand jx jb d_Mod_put_24 1 2 (rfl) (rfl) (by decide) ?_
        refine lv_aload_n jx jb d_Mod_put_25 rfl (lv_at jl 0 rfl) ?_
        refine va_get (D := D) (ci := 4) (v := .int (iZ ((B + j : Nat) : Int))) (C := R_Mod) (T := F_Mod) (N := 14) jx jb jts i_Mod jown jK.1 jP 0 rfl rfl 12 (by decide) (jts _ fl_Mod_77) (fun _ h9 => h9) rfl d_Mod_put_26 ?_
        refine lv_bipush (v := iZ 8) jx jb d_Mod_put_29 (by decide) ?_
        refine z_irem jx jb d_Mod_put_31 (by omega) ?_
        refine z_ishl jx jb d_Mod_put_32 ((B + j) % 8) (2 ^ ((B + j) % 8)) (rfl) (by omega) ?_
        refine z_iadd jx jb d_Mod_put_33 ?_
        refine z_iast jx jb jK.1 jP jD jS 1 0 rfl rfl ((B + j) / 8) (by omega) d_Mod_put_34 (fun H locs jP jD jS => ?_)
        have jP : va_P D classes [(r, .inr (4, [.ref ri, .int (iZ iL), .int (iZ go), .ref ro, .int (iZ oL), .ref rc, .int (iZ (o : Int)), .ref rp, .ref rs, .ref rd, .ref rk, .ref rh, .int (iZ ((B + j : Nat) : Int)), .int (iZ bR)])), (ro, .inl (cI, 6000, .inl (zA (zu x2 ((B + j) / 8) ((x2 ((B + j) / 8)) + ((((x : Int) / (2 ^ j)) % 2) * (2 ^ ((B + j) % 8))))))))] H := jP
        have jD : va_D A [(r, .inr (4, [.ref ri, .int (iZ iL), .int (iZ go), .ref ro, .int (iZ oL), .ref rc, .int (iZ (o : Int)), .ref rp, .ref rs, .ref rd, .ref rk, .ref rh, .int (iZ ((B + j : Nat) : Int)), .int (iZ bR)])), (ro, .inl (cI, 6000, .inl (zA (zu x2 ((B + j) / 8) ((x2 ((B + j) / 8)) + ((((x : Int) / (2 ^ j)) % 2) * (2 ^ ((B + j) % 8))))))))] := jD
        refine lv_aload_n jx jb d_Mod_put_35 rfl (lv_at jl 0 rfl) ?_
        refine lv_dup jx jb d_Mod_put_36 rfl ?_
        refine va_get (D := D) (ci := 4) (v := .int (iZ ((B + j : Nat) : Int))) (C := R_Mod) (T := F_Mod) (N := 14) jx jb jts i_Mod jown jK.1 jP 0 rfl rfl 12 (by decide) (jts _ fl_Mod_77) (fun _ h9 => h9) rfl d_Mod_put_37 ?_
        refine lv_iconst (v := iZ 1) jx jb d_Mod_put_40 rfl ?_
        refine z_iadd jx jb d_Mod_put_41 ?_
        refine va_put (D := D) (ci := 4) (v := .int (iZ (((B + j : Nat) : Int) + 1))) (ty := .int) (C := R_Mod) (T := F_Mod) (N := 14) jx jb jts i_Mod t_Mod t_Mod_ok n_Mod jown jK.1 jP jD jS 0 rfl rfl 12 (by decide) (jts _ fl_Mod_77) (fun _ h9 => h9) rfl (by decide +kernel) rfl rfl (Nat.le_of_ble_eq_true rfl) d_Mod_put_42 (fun H locs jP jD jS => ?_)
        have jP : va_P D classes [(r, .inr (4, [.ref ri, .int (iZ iL), .int (iZ go), .ref ro, .int (iZ oL), .ref rc, .int (iZ (o : Int)), .ref rp, .ref rs, .ref rd, .ref rk, .ref rh, .int (iZ (((B + j : Nat) : Int) + 1)), .int (iZ bR)])), (ro, .inl (cI, 6000, .inl (zA (zu x2 ((B + j) / 8) ((x2 ((B + j) / 8)) + ((((x : Int) / (2 ^ j)) % 2) * (2 ^ ((B + j) % 8))))))))] H := jP
        have jD : va_D A [(r, .inr (4, [.ref ri, .int (iZ iL), .int (iZ go), .ref ro, .int (iZ oL), .ref rc, .int (iZ (o : Int)), .ref rp, .ref rs, .ref rd, .ref rk, .ref rh, .int (iZ (((B + j : Nat) : Int) + 1)), .int (iZ bR)])), (ro, .inl (cI, 6000, .inl (zA (zu x2 ((B + j) / 8) ((x2 ((B + j) / 8)) + ((((x : Int) / (2 ^ j)) % 2) * (2 ^ ((B + j) % 8))))))))] := jD
        refine lv_iinc (v := iZ ((j : Int) + 1)) (lv' := [(3, .int (iZ ((j : Int) + 1))), (0, .ref r), (1, .int (iZ (x : Int))), (2, .int (iZ (n : Int)))]) jx jb d_Mod_put_45 jl (k := 3) rfl (iZ_add _ _) (by decide) rfl (fun ls jl => ?_)
        refine lv_goto (tgt := 2) jx jb d_Mod_put_48 (by decide) ?_
        exact ih2 (j + 1) (zu x2 ((B + j) / 8) ((x2 ((B + j) / 8)) + ((((x : Int) / (2 ^ j)) % 2) * (2 ^ ((B + j) % 8))))) (by omega) (by first | assumption | omega) (mO_step h2 (by omega)) _ _ (jP.sub [0, 1] rfl) (jD.sub [0, 1] (by decide) rfl) jS _ (lv_sub jl [1, 2, 3, 0] rfl)
  exact hloop2 ((n - 0) + 1) 0 xo (Nat.lt_succ_self _) (by first | assumption | omega) (mO_0 hO) _ _ (jP.sub [0, 1] rfl) (jD.sub [0, 1] (by decide) rfl) jS _ (lv_sub jl [1, 2, 3, 0] rfl)
abbrev rm_M_putNumber : Room := { frames := 1, cells := 0, slots := 0, locals := 23 }
set_option maxHeartbeats 4000000 in
set_option maxRecDepth 100000 in
theorem c_M_putNumber (l : Launch) (D : va_G) (cI cB cZ : ClassId) (sz : Nat) (r : Nat) (ri : Nat) (ro : Nat) (rc : Nat) (rp : Nat) (rs : Nat) (rd : Nat) (rk : Nat) (rh : Nat) (iL : Int) (go : Int) (oL : Int) (o : Nat) (bR : Int) (xo : Nat → Int) (V : Nat) (B : Nat) (v : Nat) (R1 : Int) (hO : mO V B xo) (hR : 1 ≤ R1 ∧ R1 ≤ 4096) (hv : (v : Int) ≤ R1 + 1) (hB : B + 13 ≤ 48000) : Met l y_Mod_putNumber (.code y_Mod_putNumber b_Mod_putNumber 6 none :: zT) rm_M_putNumber (zPc D classes (TY cI cB cZ) [(r, .inr (4, [.ref ri, .int (iZ iL), .int (iZ go), .ref ro, .int (iZ oL), .ref rc, .int (iZ (o : Int)), .ref rp, .ref rs, .ref rd, .ref rk, .ref rh, .int (iZ (B : Int)), .int (iZ bR)])), (ro, .inl (cI, 6000, .inl (zA xo)))] sz [.ref r, .int (iZ (v : Int)), .int (iZ R1)]) (zFv (S := Nat → Int) D classes (fun u => mO (V + numX R1 v * 2 ^ B) (B + numN R1 v) u) (fun u => [(r, .inr (4, [.ref ri, .int (iZ iL), .int (iZ go), .ref ro, .int (iZ oL), .ref rc, .int (iZ (o : Int)), .ref rp, .ref rs, .ref rd, .ref rk, .ref rh, .int (iZ ((B + numN R1 v : Nat) : Int)), .int (iZ bR)])), (ro, .inl (cI, 6000, .inl (zA u)))]) (va_A [(r, .inr (4, [.ref ri, .int (iZ iL), .int (iZ go), .ref ro, .int (iZ oL), .ref rc, .int (iZ (o : Int)), .ref rp, .ref rs, .ref rd, .ref rk, .ref rh, .int (iZ (B : Int)), .int (iZ bR)])), (ro, .inl (cI, 6000, .inl (zA xo)))] sz)) 0 0 (va_A [(r, .inr (4, [.ref ri, .int (iZ iL), .int (iZ go), .ref ro, .int (iZ oL), .ref rc, .int (iZ (o : Int)), .ref rp, .ref rs, .ref rd, .ref rk, .ref rh, .int (iZ (B : Int)), .int (iZ bR)])), (ro, .inl (cI, 6000, .inl (zA xo)))] sz) := by
  refine z_ofv (by decide) (Nat.le_of_ble_eq_true rfl) rfl ?_
  intro p e s m args below meth c A Q E jmn jA jK jret H locs jP jD jS ls jl
  obtain ⟨jx, jb, jrt, jml, jown, jts, jlk⟩ := E
  have jown : s.vm.findClass R_Mod = some m.cls := jown
  have hf := num_facts hR.1 hR.2
  have hkk := numK_le hR.1 hR.2
  have hnm : numM R1 = 2 * numT R1 - 2 - R1 := rfl
  have jl : lv_has ls 6 [(0, .ref r), (1, .int (iZ (v : Int))), (2, .int (iZ R1))] := jl
  refine lv_iload_n jx jb d_Mod_putNumber_0 rfl (lv_at jl 2 rfl) ?_
  refine z_backe (va_runS (As := [.int (iZ R1)]) (rest := []) ⟨jx, jb, jml, jown, jts⟩ (c_M_bitsFor l D cI cB cZ R1 (by first | assumption | omega)) (zc_S 1 jts cd_Mod_bitsFor lk_Mod_80 st_Mod_bitsFor in_Mod hd_Mod_bitsFor ⟨Nat.le_of_ble_eq_true rfl, Nat.le_of_ble_eq_true rfl⟩ rfl rfl) (z_preSR jK jP [] rfl) rfl rfl jl.1 rfl (lv_room (Nat.le_of_ble_eq_true rfl)) d_Mod_putNumber_1 ⟨Nat.le_of_ble_eq_true rfl, Nat.le_of_ble_eq_true rfl⟩) ?_
  refine lv_istore_n (lv' := [(3, .int (iZ (numK R1 : Int))), (0, .ref r), (1, .int (iZ (v : Int))), (2, .int (iZ R1))]) jx jb d_Mod_putNumber_4 rfl jl (by decide) rfl (fun ls jl => ?_)
  refine lv_iconst (v := iZ 1) jx jb d_Mod_putNumber_5 rfl ?_
  refine lv_iload_n jx jb d_Mod_putNumber_6 rfl (lv_at jl 0 rfl) ?_
  refine z_ishl jx jb d_Mod_putNumber_7 (numK R1) (2 ^ (numK R1)) (rfl) (by omega) ?_
  refine z_top (numT R1) (Int.one_mul _) ?_
  refine lv_istore (lv' := [(4, .int (iZ (numT R1))), (3, .int (iZ (numK R1 : Int))), (0, .ref r), (1, .int (iZ (v : Int))), (2, .int (iZ R1))]) jx jb d_Mod_putNumber_8 jl (by decide) rfl (fun ls jl => ?_)
  refine lv_iconst (v := iZ 2) jx jb d_Mod_putNumber_10 rfl ?_
  refine lv_iload jx jb d_Mod_putNumber_11 (lv_at jl 0 rfl) ?_
  refine z_imul jx jb d_Mod_putNumber_13 ?_
  refine lv_iconst (v := iZ 2) jx jb d_Mod_putNumber_14 rfl ?_
  refine z_isub jx jb d_Mod_putNumber_15 ?_
  refine lv_iload_n jx jb d_Mod_putNumber_16 rfl (lv_at jl 4 rfl) ?_
  refine z_isub jx jb d_Mod_putNumber_17 ?_
  refine z_top (numM R1) (rfl) ?_
  refine lv_istore (lv' := [(5, .int (iZ (numM R1))), (4, .int (iZ (numT R1))), (3, .int (iZ (numK R1 : Int))), (0, .ref r), (1, .int (iZ (v : Int))), (2, .int (iZ R1))]) jx jb d_Mod_putNumber_18 jl (by decide) rfl (fun ls jl => ?_)
  refine lv_iload_n jx jb d_Mod_putNumber_20 rfl (lv_at jl 4 rfl) ?_
  refine lv_iload jx jb d_Mod_putNumber_21 (lv_at jl 0 rfl) ?_
  refine z_icmp_ge (tgt := 35) jx jb d_Mod_putNumber_23 (by decide) ⟨⟨by omega, by omega⟩, ⟨by omega, by omega⟩⟩ (fun hc23 => ?_) (fun hc23 => ?_)
  ·
    refine lv_aload_n jx jb d_Mod_putNumber_35 rfl (lv_at jl 3 rfl) ?_
    refine lv_iload_n jx jb d_Mod_putNumber_36 rfl (lv_at jl 4 rfl) ?_
    refine lv_iload jx jb d_Mod_putNumber_37 (lv_at jl 1 rfl) ?_
    refine z_icmp_ge (tgt := 46) jx jb d_Mod_putNumber_39 (by decide) ⟨⟨by omega, by omega⟩, ⟨by omega, by omega⟩⟩ (fun hc39 => ?_) (fun hc39 => ?_)
    ·
      refine lv_iload_n jx jb d_Mod_putNumber_46 rfl (lv_at jl 4 rfl) ?_
      refine lv_iload jx jb d_Mod_putNumber_47 (lv_at jl 0 rfl) ?_
      refine z_iadd jx jb d_Mod_putNumber_49 ?_
      refine z_top ((v + (numM R1).toNat : Nat) : Int) (by omega) ?_
      refine lv_iload_n jx jb d_Mod_putNumber_50 rfl (lv_at jl 2 rfl) ?_
      refine lv_iconst (v := iZ 1) jx jb d_Mod_putNumber_51 rfl ?_
      refine z_iadd jx jb d_Mod_putNumber_52 ?_
      refine z_backv (wr := []) jP jD jS jA [0, 1] [] rfl rfl (by decide) (by decide) (va_runV (As := [.int (iZ ((v + (numM R1).toNat : Nat) : Int)), .int (iZ ((numK R1 : Int) + 1))]) (rest := []) ⟨jx, jb, jml, jown, jts⟩ (c_M_put l D cI cB cZ H.size r ri ro rc rp rs rd rk rh iL go oL o bR xo V B (v + (numM R1).toNat : Nat) (numK R1 + 1) (by first | assumption | omega) (by first | exact num_x2 hR.1 hR.2 (by omega) | exact num_x3 hR.1 hR.2 (by omega)) (by omega) (by omega)) (zc_V 2 jts cd_Mod_put lk_Mod_83 im_Mod_put se_Mod_put in_Mod hd_Mod_put ⟨Nat.le_of_ble_eq_true rfl, Nat.le_of_ble_eq_true rfl⟩ rfl rfl) (z_preV jK jP jD [0, 1] (by decide) rfl rfl rfl rfl) rfl rfl jl.1 rfl (lv_room (Nat.le_of_ble_eq_true rfl)) d_Mod_putNumber_53 ⟨Nat.le_of_ble_eq_true rfl, Nat.le_of_ble_eq_true rfl⟩) (fun u53 H locs hu53 jP jD jS => ?_)
      obtain ⟨xo1_53, rfl⟩ : ∃ z, z = u53 := ⟨_, rfl⟩
      have jP : va_P D classes [(r, .inr (4, [.ref ri, .int (iZ iL), .int (iZ go), .ref ro, .int (iZ oL), .ref rc, .int (iZ (o : Int)), .ref rp, .ref rs, .ref rd, .ref rk, .ref rh, .int (iZ ((B + (numK R1 + 1) : Nat) : Int)), .int (iZ bR)])), (ro, .inl (cI, 6000, .inl (zA xo1_53)))] H := jP.sub [0, 1] rfl
      have jD : va_D A [(r, .inr (4, [.ref ri, .int (iZ iL), .int (iZ go), .ref ro, .int (iZ oL), .ref rc, .int (iZ (o : Int)), .ref rp, .ref rs, .ref rd, .ref rk, .ref rh, .int (iZ ((B + (numK R1 + 1) : Nat) : Int)), .int (iZ bR)])), (ro, .inl (cI, 6000, .inl (zA xo1_53)))] := jD.sub [0, 1] (by decide) rfl
      first | rw [← numN_1 (R := R1) (v := v) (by omega)] at jP jD | rw [← numN_2 (R := R1) (v := v) (by omega)] at jP jD
      exact jret _ _ (xo1_53) _ _ (by first | (rw [numX_1 (by omega), numN_1 (by omega)]; exact hu29) | (rw [numX_2 (by omega) (by omega), numN_2 (by omega)]; exact hu53) | (rw [numX_3 (by omega) (by omega), numN_2 (by omega)]; exact hu53)) (jP.sub [0, 1] rfl) (jD.sub [0, 1] (by decide) rfl) jS d_Mod_putNumber_56
    ·
      refine lv_iload_n jx jb d_Mod_putNumber_42 rfl (lv_at jl 4 rfl) ?_
      refine lv_goto (tgt := 50) jx jb d_Mod_putNumber_43 (by decide) ?_
      refine lv_iload_n jx jb d_Mod_putNumber_50 rfl (lv_at jl 2 rfl) ?_
      refine lv_iconst (v := iZ 1) jx jb d_Mod_putNumber_51 rfl ?_
      refine z_iadd jx jb d_Mod_putNumber_52 ?_
      refine z_backv (wr := []) jP jD jS jA [0, 1] [] rfl rfl (by decide) (by decide) (va_runV (As := [.int (iZ (v : Int)), .int (iZ ((numK R1 : Int) + 1))]) (rest := []) ⟨jx, jb, jml, jown, jts⟩ (c_M_put l D cI cB cZ H.size r ri ro rc rp rs rd rk rh iL go oL o bR xo V B v (numK R1 + 1) (by first | assumption | omega) (by first | exact num_x2 hR.1 hR.2 (by omega) | exact num_x3 hR.1 hR.2 (by omega)) (by omega) (by omega)) (zc_V 2 jts cd_Mod_put lk_Mod_83 im_Mod_put se_Mod_put in_Mod hd_Mod_put ⟨Nat.le_of_ble_eq_true rfl, Nat.le_of_ble_eq_true rfl⟩ rfl rfl) (z_preV jK jP jD [0, 1] (by decide) rfl rfl rfl rfl) rfl rfl jl.1 rfl (lv_room (Nat.le_of_ble_eq_true rfl)) d_Mod_putNumber_53 ⟨Nat.le_of_ble_eq_true rfl, Nat.le_of_ble_eq_true rfl⟩) (fun u53 H locs hu53 jP jD jS => ?_)
      obtain ⟨xo1_53, rfl⟩ : ∃ z, z = u53 := ⟨_, rfl⟩
      have jP : va_P D classes [(r, .inr (4, [.ref ri, .int (iZ iL), .int (iZ go), .ref ro, .int (iZ oL), .ref rc, .int (iZ (o : Int)), .ref rp, .ref rs, .ref rd, .ref rk, .ref rh, .int (iZ ((B + (numK R1 + 1) : Nat) : Int)), .int (iZ bR)])), (ro, .inl (cI, 6000, .inl (zA xo1_53)))] H := jP.sub [0, 1] rfl
      have jD : va_D A [(r, .inr (4, [.ref ri, .int (iZ iL), .int (iZ go), .ref ro, .int (iZ oL), .ref rc, .int (iZ (o : Int)), .ref rp, .ref rs, .ref rd, .ref rk, .ref rh, .int (iZ ((B + (numK R1 + 1) : Nat) : Int)), .int (iZ bR)])), (ro, .inl (cI, 6000, .inl (zA xo1_53)))] := jD.sub [0, 1] (by decide) rfl
      first | rw [← numN_1 (R := R1) (v := v) (by omega)] at jP jD | rw [← numN_2 (R := R1) (v := v) (by omega)] at jP jD
      exact jret _ _ (xo1_53) _ _ (by first | (rw [numX_1 (by omega), numN_1 (by omega)]; exact hu29) | (rw [numX_2 (by omega) (by omega), numN_2 (by omega)]; exact hu53) | (rw [numX_3 (by omega) (by omega), numN_2 (by omega)]; exact hu53)) (jP.sub [0, 1] rfl) (jD.sub [0, 1] (by decide) rfl) jS d_Mod_putNumber_56
  ·
    refine lv_aload_n jx jb d_Mod_putNumber_26 rfl (lv_at jl 3 rfl) ?_
    refine lv_iload_n jx jb d_Mod_putNumber_27 rfl (lv_at jl 4 rfl) ?_
    refine lv_iload_n jx jb d_Mod_putNumber_28 rfl (lv_at jl 2 rfl) ?_
    refine z_backv (wr := []) jP jD jS jA [0, 1] [] rfl rfl (by decide) (by decide) (va_runV (As := [.int (iZ (v : Int)), .int (iZ (numK R1 : Int))]) (rest := []) ⟨jx, jb, jml, jown, jts⟩ (c_M_put l D cI cB cZ H.size r ri ro rc rp rs rd rk rh iL go oL o bR xo V B v (numK R1) (by first | assumption | omega) (num_x1 hR.1 hR.2 (by omega)) (by omega) (by omega)) (zc_V 2 jts cd_Mod_put lk_Mod_83 im_Mod_put se_Mod_put in_Mod hd_Mod_put ⟨Nat.le_of_ble_eq_true rfl, Nat.le_of_ble_eq_true rfl⟩ rfl rfl) (z_preV jK jP jD [0, 1] (by decide) rfl rfl rfl rfl) rfl rfl jl.1 rfl (lv_room (Nat.le_of_ble_eq_true rfl)) d_Mod_putNumber_29 ⟨Nat.le_of_ble_eq_true rfl, Nat.le_of_ble_eq_true rfl⟩) (fun u29 H locs hu29 jP jD jS => ?_)
    obtain ⟨xo1_29, rfl⟩ : ∃ z, z = u29 := ⟨_, rfl⟩
    have jP : va_P D classes [(r, .inr (4, [.ref ri, .int (iZ iL), .int (iZ go), .ref ro, .int (iZ oL), .ref rc, .int (iZ (o : Int)), .ref rp, .ref rs, .ref rd, .ref rk, .ref rh, .int (iZ ((B + (numK R1) : Nat) : Int)), .int (iZ bR)])), (ro, .inl (cI, 6000, .inl (zA xo1_29)))] H := jP.sub [0, 1] rfl
    have jD : va_D A [(r, .inr (4, [.ref ri, .int (iZ iL), .int (iZ go), .ref ro, .int (iZ oL), .ref rc, .int (iZ (o : Int)), .ref rp, .ref rs, .ref rd, .ref rk, .ref rh, .int (iZ ((B + (numK R1) : Nat) : Int)), .int (iZ bR)])), (ro, .inl (cI, 6000, .inl (zA xo1_29)))] := jD.sub [0, 1] (by decide) rfl
    refine lv_goto (tgt := 56) jx jb d_Mod_putNumber_32 (by decide) ?_
    first | rw [← numN_1 (R := R1) (v := v) (by omega)] at jP jD | rw [← numN_2 (R := R1) (v := v) (by omega)] at jP jD
    exact jret _ _ (xo1_29) _ _ (by first | (rw [numX_1 (by omega), numN_1 (by omega)]; exact hu29) | (rw [numX_2 (by omega) (by omega), numN_2 (by omega)]; exact hu53) | (rw [numX_3 (by omega) (by omega), numN_2 (by omega)]; exact hu53)) (jP.sub [0, 1] rfl) (jD.sub [0, 1] (by decide) rfl) jS d_Mod_putNumber_56
abbrev rm_M_take : Room := { frames := 0, cells := 0, slots := 0, locals := 0 }
set_option maxHeartbeats 4000000 in
set_option maxRecDepth 100000 in
theorem c_M_take (l : Launch) (D : va_G) (cI cB cZ : ClassId) (sz : Nat) (r : Nat) (ri : Nat) (ro : Nat) (rc : Nat) (rp : Nat) (rs : Nat) (rd : Nat) (rk : Nat) (rh : Nat) (iL : Int) (go : Int) (oL : Int) (o : Nat) (bP : Int) (xi : Nat → Int) (t : Nat) (n : Nat) (hiL : 0 ≤ iL ∧ iL ≤ 6000) (hgo : 0 ≤ go ∧ go ≤ iL) (hxi : ∀ k, k < 6000 → 0 ≤ xi k ∧ xi k < 256) (ht : t ≤ 100000) (hn13 : n ≤ 13) : Met l y_Mod_take (.code y_Mod_take b_Mod_take 5 (some .int) :: zT) rm_M_take (zPc D classes (TY cI cB cZ) [(r, .inr (4, [.ref ri, .int (iZ iL), .int (iZ go), .ref ro, .int (iZ oL), .ref rc, .int (iZ (o : Int)), .ref rp, .ref rs, .ref rd, .ref rk, .ref rh, .int (iZ bP), .int (iZ (t : Int))])), (ri, .inl (cI, 6000, .inl (zA xi)))] sz [.ref r, .int (iZ (n : Int))]) (zFi (S := Int) D classes (fun z u => (z = -1 ∧ 8 * iL < 8 * go + t + n ∧ u = t) ∨ (z = nbI xi (8 * go.toNat + t) n ∧ 8 * go + t + n ≤ 8 * iL ∧ u = (t : Int) + n)) (fun u => [(r, .inr (4, [.ref ri, .int (iZ iL), .int (iZ go), .ref ro, .int (iZ oL), .ref rc, .int (iZ (o : Int)), .ref rp, .ref rs, .ref rd, .ref rk, .ref rh, .int (iZ bP), .int (iZ u)])), (ri, .inl (cI, 6000, .inl (zA xi)))]) (va_A [(r, .inr (4, [.ref ri, .int (iZ iL), .int (iZ go), .ref ro, .int (iZ oL), .ref rc, .int (iZ (o : Int)), .ref rp, .ref rs, .ref rd, .ref rk, .ref rh, .int (iZ bP), .int (iZ (t : Int))])), (ri, .inl (cI, 6000, .inl (zA xi)))] sz)) 0 0 (va_A [(r, .inr (4, [.ref ri, .int (iZ iL), .int (iZ go), .ref ro, .int (iZ oL), .ref rc, .int (iZ (o : Int)), .ref rp, .ref rs, .ref rd, .ref rk, .ref rh, .int (iZ bP), .int (iZ (t : Int))])), (ri, .inl (cI, 6000, .inl (zA xi)))] sz) := by
  refine z_ofi (by decide) (Nat.le_of_ble_eq_true rfl) (Or.inl rfl) ?_
  intro p e s m args below meth c A Q E jA jK jret H locs jP jD jS ls jl
  obtain ⟨jx, jb, jrt, jml, jown, jts, jlk⟩ := E
  have jown : s.vm.findClass R_Mod = some m.cls := jown
  have jl : lv_has ls 5 [(0, .ref r), (1, .int (iZ (n : Int)))] := jl
  refine lv_bipush (v := iZ 8) jx jb d_Mod_take_0 (by decide) ?_
  refine lv_aload_n jx jb d_Mod_take_2 rfl (lv_at jl 0 rfl) ?_
  refine va_get (D := D) (ci := 4) (v := .int (iZ go)) (C := R_Mod) (T := F_Mod) (N := 14) jx jb jts i_Mod jown jK.1 jP 0 rfl rfl 2 (by decide) (jts _ fl_Mod_42) (fun _ h9 => h9) rfl d_Mod_take_3 ?_
  refine z_imul jx jb d_Mod_take_6 ?_
  refine lv_aload_n jx jb d_Mod_take_7 rfl (lv_at jl 0 rfl) ?_
  refine va_get (D := D) (ci := 4) (v := .int (iZ (t : Int))) (C := R_Mod) (T := F_Mod) (N := 14) jx jb jts i_Mod jown jK.1 jP 0 rfl rfl 13 (by decide) (jts _ fl_Mod_96) (fun _ h9 => h9) rfl d_Mod_take_8 ?_
  refine z_iadd jx jb d_Mod_take_11 ?_
  refine lv_iload_n jx jb d_Mod_take_12 rfl (lv_at jl 1 rfl) ?_
  refine z_iadd jx jb d_Mod_take_13 ?_
  refine lv_bipush (v := iZ 8) jx jb d_Mod_take_14 (by decide) ?_
  refine lv_aload_n jx jb d_Mod_take_16 rfl (lv_at jl 0 rfl) ?_
  refine va_get (D := D) (ci := 4) (v := .int (iZ iL)) (C := R_Mod) (T := F_Mod) (N := 14) jx jb jts i_Mod jown jK.1 jP 0 rfl rfl 1 (by decide) (jts _ fl_Mod_35) (fun _ h9 => h9) rfl d_Mod_take_17 ?_
  refine z_imul jx jb d_Mod_take_20 ?_
  refine z_icmp_le (tgt := 26) jx jb d_Mod_take_21 (by decide) ⟨⟨by omega, by omega⟩, ⟨by omega, by omega⟩⟩ (fun hc21 => ?_) (fun hc21 => ?_)
  ·
    refine lv_iconst (v := iZ 0) jx jb d_Mod_take_26 rfl ?_
    refine lv_istore_n (lv' := [(2, .int (iZ 0)), (0, .ref r), (1, .int (iZ (n : Int)))]) jx jb d_Mod_take_27 rfl jl (by decide) rfl (fun ls jl => ?_)
    refine lv_iconst (v := iZ 0) jx jb d_Mod_take_28 rfl ?_
    refine lv_istore_n (lv' := [(3, .int (iZ 0)), (2, .int (iZ 0)), (0, .ref r), (1, .int (iZ (n : Int)))]) jx jb d_Mod_take_29 rfl jl (by decide) rfl (fun ls jl => ?_)
    have hloop30 : ∀ (nF : Nat) (j : Nat), n - j < nF → (j ≤ n) → ∀ (H : Heap) (locs : List Loc), va_P D classes [(r, .inr (4, [.ref ri, .int (iZ iL), .int (iZ go), .ref ro, .int (iZ oL), .ref rc, .int (iZ (o : Int)), .ref rp, .ref rs, .ref rd, .ref rk, .ref rh, .int (iZ bP), .int (iZ (t : Int))])), (ri, .inl (cI, 6000, .inl (zA xi)))] H → va_D A [(r, .inr (4, [.ref ri, .int (iZ iL), .int (iZ go), .ref ro, .int (iZ oL), .ref rc, .int (iZ (o : Int)), .ref rp, .ref rs, .ref rd, .ref rk, .ref rh, .int (iZ bP), .int (iZ (t : Int))])), (ri, .inl (cI, 6000, .inl (zA xi)))] → va_S A s.heap H locs → ∀ ls : Array Slot, lv_has ls 5 [(0, .ref r), (1, .int (iZ (n : Int))), (2, .int (iZ (nbI xi (8 * go.toNat + t) j))), (3, .int (iZ (j : Int)))] → W p l e rm_M_take s m args below meth c H locs 0 0 Q (F0 m 30 ls []) := by
      intro nF
      induction nF with
      | zero => intro j hm; exact absurd hm (Nat.not_lt_zero _)
      | succ nF ih30 =>
        intro j hm hj H locs jP jD jS ls jl
        have hnb := nbI_b xi (8 * go.toNat + t) j
        have hpj := p2_le (show j ≤ 13 by omega)
        have hp0 := p2_pos j
        refine lv_iload_n jx jb d_Mod_take_30 rfl (lv_at jl 3 rfl) ?_
        refine lv_iload_n jx jb d_Mod_take_31 rfl (lv_at jl 1 rfl) ?_
        refine z_icmp_ge (tgt := 80) jx jb d_Mod_take_32 (by decide) ⟨⟨by omega, by omega⟩, ⟨by omega, by omega⟩⟩ (fun hc32 => ?_) (fun hc32 => ?_)
        ·
          refine lv_aload_n jx jb d_Mod_take_80 rfl (lv_at jl 0 rfl) ?_
          refine lv_dup jx jb d_Mod_take_81 rfl ?_
          refine va_get (D := D) (ci := 4) (v := .int (iZ (t : Int))) (C := R_Mod) (T := F_Mod) (N := 14) jx jb jts i_Mod jown jK.1 jP 0 rfl rfl 13 (by decide) (jts _ fl_Mod_96) (fun _ h9 => h9) rfl d_Mod_take_82 ?_
          refine lv_iload_n jx jb d_Mod_take_85 rfl (lv_at jl 1 rfl) ?_
          refine z_iadd jx jb d_Mod_take_86 ?_
          refine va_put (D := D) (ci := 4) (v := .int (iZ ((t : Int) + (n : Int)))) (ty := .int) (C := R_Mod) (T := F_Mod) (N := 14) jx jb jts i_Mod t_Mod t_Mod_ok n_Mod jown jK.1 jP jD jS 0 rfl rfl 13 (by decide) (jts _ fl_Mod_96) (fun _ h9 => h9) rfl (by decide +kernel) rfl rfl (Nat.le_of_ble_eq_true rfl) d_Mod_take_87 (fun H locs jP jD jS => ?_)
          have jP : va_P D classes [(r, .inr (4, [.ref ri, .int (iZ iL), .int (iZ go), .ref ro, .int (iZ oL), .ref rc, .int (iZ (o : Int)), .ref rp, .ref rs, .ref rd, .ref rk, .ref rh, .int (iZ bP), .int (iZ ((t : Int) + (n : Int)))])), (ri, .inl (cI, 6000, .inl (zA xi)))] H := jP
          have jD : va_D A [(r, .inr (4, [.ref ri, .int (iZ iL), .int (iZ go), .ref ro, .int (iZ oL), .ref rc, .int (iZ (o : Int)), .ref rp, .ref rs, .ref rd, .ref rk, .ref rh, .int (iZ bP), .int (iZ ((t : Int) + (n : Int)))])), (ri, .inl (cI, 6000, .inl (zA xi)))] := jD
          refine lv_iload_n jx jb d_Mod_take_90 rfl (lv_at jl 2 rfl) ?_
          obtain rfl : n = j := by omega
          exact jret _ _ _ (((t : Int) + (n : Int))) _ _ (Or.inl rfl) (Or.inr ⟨rfl, by omega, rfl⟩) (jP.sub [0, 1] rfl) (jD.sub [0, 1] (by decide) rfl) jS d_Mod_take_91
        ·
          refine lv_bipush (v := iZ 8) jx jb d_Mod_take_35 (by decide) ?_
          refine lv_aload_n jx jb d_Mod_take_37 rfl (lv_at jl 0 rfl) ?_
          refine va_get (D := D) (ci := 4) (v := .int (iZ go)) (C := R_Mod) (T := F_Mod) (N := 14) jx jb jts i_Mod jown jK.1 jP 0 rfl rfl 2 (by decide) (jts _ fl_Mod_42) (fun _ h9 => h9) rfl d_Mod_take_38 ?_
          refine z_imul jx jb d_Mod_take_41 ?_
          refine lv_aload_n jx jb d_Mod_take_42 rfl (lv_at jl 0 rfl) ?_
          refine va_get (D := D) (ci := 4) (v := .int (iZ (t : Int))) (C := R_Mod) (T := F_Mod) (N := 14) jx jb jts i_Mod jown jK.1 jP 0 rfl rfl 13 (by decide) (jts _ fl_Mod_96) (fun _ h9 => h9) rfl d_Mod_take_43 ?_
          refine z_iadd jx jb d_Mod_take_46 ?_
          refine lv_iload_n jx jb d_Mod_take_47 rfl (lv_at jl 3 rfl) ?_
          refine z_iadd jx jb d_Mod_take_48 ?_
          refine lv_istore (lv' := [(4, .int (iZ (((8 * go) + (t : Int)) + (j : Int)))), (0, .ref r), (1, .int (iZ (n : Int))), (2, .int (iZ (nbI xi (8 * go.toNat + t) j))), (3, .int (iZ (j : Int)))]) jx jb d_Mod_take_49 jl (by decide) rfl (fun ls jl => ?_)
          refine lv_iload_n jx jb d_Mod_take_51 rfl (lv_at jl 3 rfl) ?_
          refine lv_aload_n jx jb d_Mod_take_52 rfl (lv_at jl 1 rfl) ?_
          refine va_get (D := D) (ci := 4) (v := .ref ri) (C := R_Mod) (T := F_Mod) (N := 14) jx jb jts i_Mod jown jK.1 jP 0 rfl rfl 0 (by decide) (jts _ fl_Mod_7) (fun _ h9 => h9) rfl d_Mod_take_53 ?_
          refine lv_iload jx jb d_Mod_take_56 (lv_at jl 0 rfl) ?_
          refine lv_bipush (v := iZ 8) jx jb d_Mod_take_58 (by decide) ?_
          refine z_idiv jx jb d_Mod_take_60 (by omega) ?_
          have hxq := hxi ((8 * go.toNat + t + j) / 8) (by omega)
          refine z_iald jx jb jK.1 jP 1 0 rfl rfl ((8 * go.toNat + t + j) / 8) (by omega) d_Mod_take_61 ?_
          refine lv_iload jx jb d_Mod_take_62 (lv_at jl 0 rfl) ?_
          refine lv_bipush (v := iZ 8) jx jb d_Mod_take_64 (by decide) ?_
          refine z_irem jx jb d_Mod_take_66 (by omega) ?_
          refine z_ishr jx jb d_Mod_take_67 ((8 * go.toNat + t + j) % 8) (2 ^ ((8 * go.toNat + t + j) % 8)) (rfl) (by omega) ?_
          refine lv_iconst (v := iZ 1) jx jb d_Mod_take_68 rfl ?_
          refine z_iand jx jb d_Mod_take_69 1 2 (rfl) (rfl) (by decide) ?_
          refine lv_iload_n jx jb d_Mod_take_70 rfl (lv_at jl 4 rfl) ?_
          refine z_ishl jx jb d_Mod_take_71 j (2 ^ j) (rfl) (by omega) ?_
          refine z_ior jx jb d_Mod_take_72 j (2 ^ j) (rfl) (xi ((8 * go.toNat + t + j) / 8) / 2 ^ ((8 * go.toNat + t + j) % 8) % 2) (rfl) (nb_or hnb hpj) ?_
          refine lv_istore_n (lv' := [(2, .int (iZ ((nbI xi (8 * go.toNat + t) j) + (xi ((8 * go.toNat + t + j) / 8) / 2 ^ ((8 * go.toNat + t + j) % 8) % 2) * (2 ^ j)))), (4, .int (iZ (((8 * go) + (t : Int)) + (j : Int)))), (0, .ref r), (1, .int (iZ (n : Int))), (3, .int (iZ (j : Int)))]) jx jb d_Mod_take_73 rfl jl (by decide) rfl (fun ls jl => ?_)
          refine lv_iinc (v := iZ ((j : Int) + 1)) (lv' := [(3, .int (iZ ((j : Int) + 1))), (2, .int (iZ ((nbI xi (8 * go.toNat + t) j) + (xi ((8 * go.toNat + t + j) / 8) / 2 ^ ((8 * go.toNat + t + j) % 8) % 2) * (2 ^ j)))), (4, .int (iZ (((8 * go) + (t : Int)) + (j : Int)))), (0, .ref r), (1, .int (iZ (n : Int)))]) jx jb d_Mod_take_74 jl (k := 4) rfl (iZ_add _ _) (by decide) rfl (fun ls jl => ?_)
          refine lv_goto (tgt := 30) jx jb d_Mod_take_77 (by decide) ?_
          exact ih30 (j + 1) (by omega) (by first | assumption | omega) _ _ (jP.sub [0, 1] rfl) (jD.sub [0, 1] (by decide) rfl) jS _ (lv_sub jl [3, 4, 1, 0] rfl)
    exact hloop30 ((n - 0) + 1) 0 (Nat.lt_succ_self _) (by first | assumption | omega) _ _ (jP.sub [0, 1] rfl) (jD.sub [0, 1] (by decide) rfl) jS _ (lv_sub jl [2, 3, 1, 0] rfl)
  ·
    refine lv_iconst (v := iZ (-1)) jx jb d_Mod_take_24 rfl ?_
    exact jret _ _ _ ((t : Int)) _ _ (Or.inl rfl) (Or.inl ⟨rfl, by omega, rfl⟩) (jP.sub [0, 1] rfl) (jD.sub [0, 1] (by decide) rfl) jS d_Mod_take_25
abbrev rm_M_bitsAt : Room := { frames := 1, cells := 0, slots := 0, locals := 24 }
set_option maxHeartbeats 4000000 in
set_option maxRecDepth 100000 in
theorem c_M_bitsAt (l : Launch) (D : va_G) (cI cB cZ : ClassId) (sz : Nat) (r : Nat) (ri : Nat) (ro : Nat) (rc : Nat) (rp : Nat) (rs : Nat) (rd : Nat) (rk : Nat) (rh : Nat) (iL : Int) (go : Int) (oL : Int) (o : Nat) (bP : Int) (bR : Int) (xi : Nat → Int) (t : Nat) (n : Nat) (hiL : 0 ≤ iL ∧ iL ≤ 6000) (hgo : 0 ≤ go ∧ go ≤ iL) (hxi : ∀ k, k < 6000 → 0 ≤ xi k ∧ xi k < 256) (ht : t ≤ 100000) (hn13 : n ≤ 13) (hfit : 8 * go + t + n ≤ 8 * iL) : Met l y_Mod_bitsAt (.code y_Mod_bitsAt b_Mod_bitsAt 3 (some .int) :: zT) rm_M_bitsAt (zPc D classes (TY cI cB cZ) [(r, .inr (4, [.ref ri, .int (iZ iL), .int (iZ go), .ref ro, .int (iZ oL), .ref rc, .int (iZ (o : Int)), .ref rp, .ref rs, .ref rd, .ref rk, .ref rh, .int (iZ bP), .int (iZ bR)])), (ri, .inl (cI, 6000, .inl (zA xi)))] sz [.ref r, .int (iZ (t : Int)), .int (iZ (n : Int))]) (zFi (S := Int) D classes (fun z u => z = nbI xi (8 * go.toNat + t) n ∧ u = (t : Int) + n) (fun u => [(r, .inr (4, [.ref ri, .int (iZ iL), .int (iZ go), .ref ro, .int (iZ oL), .ref rc, .int (iZ (o : Int)), .ref rp, .ref rs, .ref rd, .ref rk, .ref rh, .int (iZ bP), .int (iZ u)])), (ri, .inl (cI, 6000, .inl (zA xi)))]) (va_A [(r, .inr (4, [.ref ri, .int (iZ iL), .int (iZ go), .ref ro, .int (iZ oL), .ref rc, .int (iZ (o : Int)), .ref rp, .ref rs, .ref rd, .ref rk, .ref rh, .int (iZ bP), .int (iZ bR)])), (ri, .inl (cI, 6000, .inl (zA xi)))] sz)) 0 0 (va_A [(r, .inr (4, [.ref ri, .int (iZ iL), .int (iZ go), .ref ro, .int (iZ oL), .ref rc, .int (iZ (o : Int)), .ref rp, .ref rs, .ref rd, .ref rk, .ref rh, .int (iZ bP), .int (iZ bR)])), (ri, .inl (cI, 6000, .inl (zA xi)))] sz) := by
  refine z_ofi (by decide) (Nat.le_of_ble_eq_true rfl) (Or.inl rfl) ?_
  intro p e s m args below meth c A Q E jA jK jret H locs jP jD jS ls jl
  obtain ⟨jx, jb, jrt, jml, jown, jts, jlk⟩ := E
  have jown : s.vm.findClass R_Mod = some m.cls := jown
  have jl : lv_has ls 3 [(0, .ref r), (1, .int (iZ (t : Int))), (2, .int (iZ (n : Int)))] := jl
  refine lv_aload_n jx jb d_Mod_bitsAt_0 rfl (lv_at jl 0 rfl) ?_
  refine lv_iload_n jx jb d_Mod_bitsAt_1 rfl (lv_at jl 1 rfl) ?_
  refine va_put (D := D) (ci := 4) (v := .int (iZ (t : Int))) (ty := .int) (C := R_Mod) (T := F_Mod) (N := 14) jx jb jts i_Mod t_Mod t_Mod_ok n_Mod jown jK.1 jP jD jS 0 rfl rfl 13 (by decide) (jts _ fl_Mod_96) (fun _ h9 => h9) rfl (by decide +kernel) rfl rfl (Nat.le_of_ble_eq_true rfl) d_Mod_bitsAt_2 (fun H locs jP jD jS => ?_)
  have jP : va_P D classes [(r, .inr (4, [.ref ri, .int (iZ iL), .int (iZ go), .ref ro, .int (iZ oL), .ref rc, .int (iZ (o : Int)), .ref rp, .ref rs, .ref rd, .ref rk, .ref rh, .int (iZ bP), .int (iZ (t : Int))])), (ri, .inl (cI, 6000, .inl (zA xi)))] H := jP
  have jD : va_D A [(r, .inr (4, [.ref ri, .int (iZ iL), .int (iZ go), .ref ro, .int (iZ oL), .ref rc, .int (iZ (o : Int)), .ref rp, .ref rs, .ref rd, .ref rk, .ref rh, .int (iZ bP), .int (iZ (t : Int))])), (ri, .inl (cI, 6000, .inl (zA xi)))] := jD
  refine lv_aload_n jx jb d_Mod_bitsAt_5 rfl (lv_at jl 0 rfl) ?_
  refine lv_iload_n jx jb d_Mod_bitsAt_6 rfl (lv_at jl 2 rfl) ?_
  refine z_backi (wr := []) jP jD jS jA [0, 1] [] rfl rfl (by decide) (by decide) (va_runV (As := [.int (iZ (n : Int))]) (rest := []) ⟨jx, jb, jml, jown, jts⟩ (c_M_take l D cI cB cZ H.size r ri ro rc rp rs rd rk rh iL go oL o bP xi t n (by first | assumption | omega) (by first | assumption | omega) (by first | assumption | omega) (by first | assumption | omega) (by first | assumption | omega)) (zc_V 1 jts cd_Mod_take lk_Mod_99 im_Mod_take se_Mod_take in_Mod hd_Mod_take ⟨Nat.le_of_ble_eq_true rfl, Nat.le_of_ble_eq_true rfl⟩ rfl rfl) (z_preV jK jP jD [0, 1] (by decide) rfl rfl rfl rfl) rfl rfl jl.1 rfl (lv_room (Nat.le_of_ble_eq_true rfl)) d_Mod_bitsAt_7 ⟨Nat.le_of_ble_eq_true rfl, Nat.le_of_ble_eq_true rfl⟩) (fun z7 u7 H locs hz7 jP jD jS => ?_)
  obtain ⟨bR1_7, rfl⟩ : ∃ z, z = u7 := ⟨_, rfl⟩
  have jP : va_P D classes [(r, .inr (4, [.ref ri, .int (iZ iL), .int (iZ go), .ref ro, .int (iZ oL), .ref rc, .int (iZ (o : Int)), .ref rp, .ref rs, .ref rd, .ref rk, .ref rh, .int (iZ bP), .int (iZ bR1_7)])), (ri, .inl (cI, 6000, .inl (zA xi)))] H := jP.sub [0, 1] rfl
  have jD : va_D A [(r, .inr (4, [.ref ri, .int (iZ iL), .int (iZ go), .ref ro, .int (iZ oL), .ref rc, .int (iZ (o : Int)), .ref rp, .ref rs, .ref rd, .ref rk, .ref rh, .int (iZ bP), .int (iZ bR1_7)])), (ri, .inl (cI, 6000, .inl (zA xi)))] := jD.sub [0, 1] (by decide) rfl
  rcases hz7 with ⟨rfl, hq7, hb7⟩ | ⟨rfl, hq7, hb7⟩
  ·
    exfalso; omega
  ·
    exact jret _ _ _ (bR1_7) _ _ (Or.inl rfl) (⟨rfl, hb7⟩) (jP.sub [0, 1] rfl) (jD.sub [0, 1] (by decide) rfl) jS d_Mod_bitsAt_10
