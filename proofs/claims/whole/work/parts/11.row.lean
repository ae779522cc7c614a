theorem fl_Row_15 : Cond.fieldLink R_Row 15 "StateCoder$Row" "length" "I" ∈ zT := zT_of (List.mem_of_getElem? (i := 61) (by decide +kernel)) rfl
theorem fl_Row_25 : Cond.fieldLink R_Row 25 "StateCoder$Row" "overfull" "Z" ∈ zT := zT_of (List.mem_of_getElem? (i := 64) (by decide +kernel)) rfl
theorem fl_Row_19 : Cond.fieldLink R_Row 19 "StateCoder$Row" "held" "I" ∈ zT := zT_of (List.mem_of_getElem? (i := 62) (by decide +kernel)) rfl
theorem fl_Row_22 : Cond.fieldLink R_Row 22 "StateCoder$Row" "heldBits" "I" ∈ zT := zT_of (List.mem_of_getElem? (i := 63) (by decide +kernel)) rfl
theorem fl_Row_9 : Cond.fieldLink R_Row 9 "StateCoder$Row" "bytes" "[B" ∈ zT := zT_of (List.mem_of_getElem? (i := 60) (by decide +kernel)) rfl
theorem cd_Row_byteOrZero : Cond.code y_Row_byteOrZero b_Row_byteOrZero 2 (some .int) ∈ zT := zT_of (List.mem_of_getElem? (i := 214) (by decide +kernel)) rfl
theorem in_Row : Cond.initialized R_Row ∈ zT := zT_of (List.mem_of_getElem? (i := 36) (by decide +kernel)) rfl
theorem hd_Row_byteOrZero : y_Row_byteOrZero.cls ≠ "java/lang/invoke/MethodHandle" ∧ y_Row_byteOrZero.cls ≠ "java/lang/invoke/VarHandle" ∧ (parseMethodDescriptor y_Row_byteOrZero.desc).map (fun d => d.parameters.length) = some 1 := by decide +kernel
theorem lk_Row_46 : Cond.methodLink R_Row 46 y_Row_byteOrZero ∈ zT := zT_of (List.mem_of_getElem? (i := 374) (by decide +kernel)) rfl
theorem im_Row_byteOrZero : Cond.instanceMethod y_Row_byteOrZero ∈ zT := zT_of (List.mem_of_getElem? (i := 212) (by decide +kernel)) rfl
theorem se_Row_byteOrZero : Cond.selects R_Row y_Row_byteOrZero y_Row_byteOrZero ∈ zT := zT_of (List.mem_of_getElem? (i := 213) (by decide +kernel)) rfl
theorem fl_Row_50 : Cond.fieldLink R_Row 50 "StateCoder$Row" "takeStart" "I" ∈ zT := zT_of (List.mem_of_getElem? (i := 65) (by decide +kernel)) rfl
theorem fl_Row_53 : Cond.fieldLink R_Row 53 "StateCoder$Row" "takenBits" "I" ∈ zT := zT_of (List.mem_of_getElem? (i := 66) (by decide +kernel)) rfl
theorem cd_Row_number : Cond.code y_Row_number b_Row_number 6 (some .int) ∈ zT := zT_of (List.mem_of_getElem? (i := 373) (by decide +kernel)) rfl
theorem hd_Row_number : y_Row_number.cls ≠ "java/lang/invoke/MethodHandle" ∧ y_Row_number.cls ≠ "java/lang/invoke/VarHandle" ∧ (parseMethodDescriptor y_Row_number.desc).map (fun d => d.parameters.length) = some 3 := by decide +kernel
theorem lk_Row_56 : Cond.methodLink R_Row 56 y_Row_number ∈ zT := zT_of (List.mem_of_getElem? (i := 370) (by decide +kernel)) rfl
theorem im_Row_number : Cond.instanceMethod y_Row_number ∈ zT := zT_of (List.mem_of_getElem? (i := 371) (by decide +kernel)) rfl
theorem se_Row_number : Cond.selects R_Row y_Row_number y_Row_number ∈ zT := zT_of (List.mem_of_getElem? (i := 372) (by decide +kernel)) rfl
theorem cd_Row_nextBits : Cond.code y_Row_nextBits b_Row_nextBits 2 (some .int) ∈ zT := zT_of (List.mem_of_getElem? (i := 369) (by decide +kernel)) rfl
theorem hd_Row_nextBits : y_Row_nextBits.cls ≠ "java/lang/invoke/MethodHandle" ∧ y_Row_nextBits.cls ≠ "java/lang/invoke/VarHandle" ∧ (parseMethodDescriptor y_Row_nextBits.desc).map (fun d => d.parameters.length) = some 1 := by decide +kernel
theorem lk_Row_60 : Cond.methodLink R_Row 60 y_Row_nextBits ∈ zT := zT_of (List.mem_of_getElem? (i := 366) (by decide +kernel)) rfl
theorem im_Row_nextBits : Cond.instanceMethod y_Row_nextBits ∈ zT := zT_of (List.mem_of_getElem? (i := 367) (by decide +kernel)) rfl
theorem se_Row_nextBits : Cond.selects R_Row y_Row_nextBits y_Row_nextBits ∈ zT := zT_of (List.mem_of_getElem? (i := 368) (by decide +kernel)) rfl
theorem cd_Row_add : Cond.code y_Row_add b_Row_add 2 none ∈ zT := zT_of (List.mem_of_getElem? (i := 167) (by decide +kernel)) rfl
theorem hd_Row_add : y_Row_add.cls ≠ "java/lang/invoke/MethodHandle" ∧ y_Row_add.cls ≠ "java/lang/invoke/VarHandle" ∧ (parseMethodDescriptor y_Row_add.desc).map (fun d => d.parameters.length) = some 1 := by decide +kernel
theorem lk_Row_38 : Cond.methodLink R_Row 38 y_Row_add ∈ zT := zT_of (List.mem_of_getElem? (i := 320) (by decide +kernel)) rfl
theorem im_Row_add : Cond.instanceMethod y_Row_add ∈ zT := zT_of (List.mem_of_getElem? (i := 165) (by decide +kernel)) rfl
theorem se_Row_add : Cond.selects R_Row y_Row_add y_Row_add ∈ zT := zT_of (List.mem_of_getElem? (i := 166) (by decide +kernel)) rfl
theorem cd_Row_putBits : Cond.code y_Row_putBits b_Row_putBits 3 none ∈ zT := zT_of (List.mem_of_getElem? (i := 319) (by decide +kernel)) rfl
theorem hd_Row_putBits : y_Row_putBits.cls ≠ "java/lang/invoke/MethodHandle" ∧ y_Row_putBits.cls ≠ "java/lang/invoke/VarHandle" ∧ (parseMethodDescriptor y_Row_putBits.desc).map (fun d => d.parameters.length) = some 2 := by decide +kernel
theorem lk_Row_42 : Cond.methodLink R_Row 42 y_Row_putBits ∈ zT := zT_of (List.mem_of_getElem? (i := 346) (by decide +kernel)) rfl
theorem im_Row_putBits : Cond.instanceMethod y_Row_putBits ∈ zT := zT_of (List.mem_of_getElem? (i := 317) (by decide +kernel)) rfl
theorem se_Row_putBits : Cond.selects R_Row y_Row_putBits y_Row_putBits ∈ zT := zT_of (List.mem_of_getElem? (i := 318) (by decide +kernel)) rfl
theorem cd_Row_empty : Cond.code y_Row_empty b_Row_empty 1 none ∈ zT := zT_of (List.mem_of_getElem? (i := 179) (by decide +kernel)) rfl
theorem hd_Row_empty : y_Row_empty.cls ≠ "java/lang/invoke/MethodHandle" ∧ y_Row_empty.cls ≠ "java/lang/invoke/VarHandle" ∧ (parseMethodDescriptor y_Row_empty.desc).map (fun d => d.parameters.length) = some 0 := by decide +kernel
theorem lk_Row_29 : Cond.methodLink R_Row 29 y_Row_empty ∈ zT := zT_of (List.mem_of_getElem? (i := 176) (by decide +kernel)) rfl
theorem im_Row_empty : Cond.instanceMethod y_Row_empty ∈ zT := zT_of (List.mem_of_getElem? (i := 177) (by decide +kernel)) rfl
theorem se_Row_empty : Cond.selects R_Row y_Row_empty y_Row_empty ∈ zT := zT_of (List.mem_of_getElem? (i := 178) (by decide +kernel)) rfl
theorem lk_Row_32 : Cond.methodLink R_Row 32 arraycopyName ∈ zT := zT_of (List.mem_of_getElem? (i := 180) (by decide +kernel)) rfl
theorem nt_arraycopy : Cond.native arraycopyName ∈ zT := zT_of (List.mem_of_getElem? (i := 182) (by decide +kernel)) rfl
theorem st_arraycopy : Cond.static arraycopyName ∈ zT := zT_of (List.mem_of_getElem? (i := 181) (by decide +kernel)) rfl
theorem in_System : Cond.initialized "java/lang/System" ∈ zT := zT_of (List.mem_of_getElem? (i := 40) (by decide +kernel)) rfl
theorem lk_Row_3 : Cond.methodLink R_Row 3 objectInit ∈ zT := zT_of (List.mem_of_getElem? (i := 59) (by decide +kernel)) rfl
theorem im_objectInit : Cond.instanceMethod objectInit ∈ zT := zT_of (List.mem_of_getElem? (i := 52) (by decide +kernel)) rfl
theorem cd_objectInit : Cond.code objectInit ⟨#[0xb1]⟩ 1 none ∈ zT := zT_of (List.mem_of_getElem? (i := 53) (by decide +kernel)) rfl
theorem ac_byte : Cond.arrayClass (newarray.typeOf .byte) ∈ zT := zT_of (List.mem_of_getElem? (i := 83) (by decide +kernel)) rfl
theorem d_Row_length_0 : decode b_Row_length 0 = .ok (.aload_n 0, 1) := by decide +kernel
theorem d_Row_length_1 : decode b_Row_length 1 = .ok (.getfield 15, 3) := by decide +kernel
theorem d_Row_length_4 : decode b_Row_length 4 = .ok (.ireturn, 1) := by decide +kernel
theorem d_Row_isOverfull_0 : decode b_Row_isOverfull 0 = .ok (.aload_n 0, 1) := by decide +kernel
theorem d_Row_isOverfull_1 : decode b_Row_isOverfull 1 = .ok (.getfield 25, 3) := by decide +kernel
theorem d_Row_isOverfull_4 : decode b_Row_isOverfull 4 = .ok (.ireturn, 1) := by decide +kernel
theorem d_Row_empty_0 : decode b_Row_empty 0 = .ok (.aload_n 0, 1) := by decide +kernel
theorem d_Row_empty_1 : decode b_Row_empty 1 = .ok (.iconst 0, 1) := by decide +kernel
theorem d_Row_empty_2 : decode b_Row_empty 2 = .ok (.putfield 15, 3) := by decide +kernel
theorem d_Row_empty_5 : decode b_Row_empty 5 = .ok (.aload_n 0, 1) := by decide +kernel
theorem d_Row_empty_6 : decode b_Row_empty 6 = .ok (.iconst 0, 1) := by decide +kernel
theorem d_Row_empty_7 : decode b_Row_empty 7 = .ok (.putfield 19, 3) := by decide +kernel
theorem d_Row_empty_10 : decode b_Row_empty 10 = .ok (.aload_n 0, 1) := by decide +kernel
theorem d_Row_empty_11 : decode b_Row_empty 11 = .ok (.iconst 0, 1) := by decide +kernel
theorem d_Row_empty_12 : decode b_Row_empty 12 = .ok (.putfield 22, 3) := by decide +kernel
theorem d_Row_empty_15 : decode b_Row_empty 15 = .ok (.aload_n 0, 1) := by decide +kernel
theorem d_Row_empty_16 : decode b_Row_empty 16 = .ok (.iconst 0, 1) := by decide +kernel
theorem d_Row_empty_17 : decode b_Row_empty 17 = .ok (.putfield 25, 3) := by decide +kernel
theorem d_Row_empty_20 : decode b_Row_empty 20 = .ok (.return_, 1) := by decide +kernel
theorem d_Row_add_0 : decode b_Row_add 0 = .ok (.aload_n 0, 1) := by decide +kernel
theorem d_Row_add_1 : decode b_Row_add 1 = .ok (.getfield 15, 3) := by decide +kernel
theorem d_Row_add_4 : decode b_Row_add 4 = .ok (.ifCond .lt 37, 3) := by decide +kernel
theorem d_Row_add_7 : decode b_Row_add 7 = .ok (.aload_n 0, 1) := by decide +kernel
theorem d_Row_add_8 : decode b_Row_add 8 = .ok (.getfield 15, 3) := by decide +kernel
theorem d_Row_add_11 : decode b_Row_add 11 = .ok (.sipush 6000, 3) := by decide +kernel
theorem d_Row_add_14 : decode b_Row_add 14 = .ok (.if_icmp .ge 27, 3) := by decide +kernel
theorem d_Row_add_17 : decode b_Row_add 17 = .ok (.aload_n 0, 1) := by decide +kernel
theorem d_Row_add_18 : decode b_Row_add 18 = .ok (.getfield 9, 3) := by decide +kernel
theorem d_Row_add_21 : decode b_Row_add 21 = .ok (.aload_n 0, 1) := by decide +kernel
theorem d_Row_add_22 : decode b_Row_add 22 = .ok (.getfield 15, 3) := by decide +kernel
theorem d_Row_add_25 : decode b_Row_add 25 = .ok (.iload_n 1, 1) := by decide +kernel
theorem d_Row_add_26 : decode b_Row_add 26 = .ok (.i2b, 1) := by decide +kernel
theorem d_Row_add_27 : decode b_Row_add 27 = .ok (.bastore, 1) := by decide +kernel
theorem d_Row_add_28 : decode b_Row_add 28 = .ok (.aload_n 0, 1) := by decide +kernel
theorem d_Row_add_29 : decode b_Row_add 29 = .ok (.dup, 1) := by decide +kernel
theorem d_Row_add_30 : decode b_Row_add 30 = .ok (.getfield 15, 3) := by decide +kernel
theorem d_Row_add_33 : decode b_Row_add 33 = .ok (.iconst 1, 1) := by decide +kernel
theorem d_Row_add_34 : decode b_Row_add 34 = .ok (.iadd, 1) := by decide +kernel
theorem d_Row_add_35 : decode b_Row_add 35 = .ok (.putfield 15, 3) := by decide +kernel
theorem d_Row_add_38 : decode b_Row_add 38 = .ok (.goto 8, 3) := by decide +kernel
theorem d_Row_add_41 : decode b_Row_add 41 = .ok (.aload_n 0, 1) := by decide +kernel
theorem d_Row_add_42 : decode b_Row_add 42 = .ok (.iconst 1, 1) := by decide +kernel
theorem d_Row_add_43 : decode b_Row_add 43 = .ok (.putfield 25, 3) := by decide +kernel
theorem d_Row_add_46 : decode b_Row_add 46 = .ok (.return_, 1) := by decide +kernel
theorem d_Row_byteOrZero_0 : decode b_Row_byteOrZero 0 = .ok (.iload_n 1, 1) := by decide +kernel
theorem d_Row_byteOrZero_1 : decode b_Row_byteOrZero 1 = .ok (.ifCond .lt 18, 3) := by decide +kernel
theorem d_Row_byteOrZero_4 : decode b_Row_byteOrZero 4 = .ok (.iload_n 1, 1) := by decide +kernel
theorem d_Row_byteOrZero_5 : decode b_Row_byteOrZero 5 = .ok (.aload_n 0, 1) := by decide +kernel
theorem d_Row_byteOrZero_6 : decode b_Row_byteOrZero 6 = .ok (.getfield 15, 3) := by decide +kernel
theorem d_Row_byteOrZero_9 : decode b_Row_byteOrZero 9 = .ok (.if_icmp .ge 10, 3) := by decide +kernel
theorem d_Row_byteOrZero_12 : decode b_Row_byteOrZero 12 = .ok (.iload_n 1, 1) := by decide +kernel
theorem d_Row_byteOrZero_13 : decode b_Row_byteOrZero 13 = .ok (.sipush 6000, 3) := by decide +kernel
theorem d_Row_byteOrZero_16 : decode b_Row_byteOrZero 16 = .ok (.if_icmp .lt 7, 3) := by decide +kernel
theorem d_Row_byteOrZero_19 : decode b_Row_byteOrZero 19 = .ok (.iconst 0, 1) := by decide +kernel
theorem d_Row_byteOrZero_20 : decode b_Row_byteOrZero 20 = .ok (.goto 13, 3) := by decide +kernel
theorem d_Row_byteOrZero_23 : decode b_Row_byteOrZero 23 = .ok (.aload_n 0, 1) := by decide +kernel
theorem d_Row_byteOrZero_24 : decode b_Row_byteOrZero 24 = .ok (.getfield 9, 3) := by decide +kernel
theorem d_Row_byteOrZero_27 : decode b_Row_byteOrZero 27 = .ok (.iload_n 1, 1) := by decide +kernel
theorem d_Row_byteOrZero_28 : decode b_Row_byteOrZero 28 = .ok (.baload, 1) := by decide +kernel
theorem d_Row_byteOrZero_29 : decode b_Row_byteOrZero 29 = .ok (.sipush 255, 3) := by decide +kernel
theorem d_Row_byteOrZero_32 : decode b_Row_byteOrZero 32 = .ok (.iand, 1) := by decide +kernel
theorem d_Row_byteOrZero_33 : decode b_Row_byteOrZero 33 = .ok (.ireturn, 1) := by decide +kernel
theorem d_Row_number_0 : decode b_Row_number 0 = .ok (.iload_n 1, 1) := by decide +kernel
theorem d_Row_number_1 : decode b_Row_number 1 = .ok (.iload_n 2, 1) := by decide +kernel
theorem d_Row_number_2 : decode b_Row_number 2 = .ok (.iconst 3, 1) := by decide +kernel
theorem d_Row_number_3 : decode b_Row_number 3 = .ok (.ishr, 1) := by decide +kernel
theorem d_Row_number_4 : decode b_Row_number 4 = .ok (.iadd, 1) := by decide +kernel
theorem d_Row_number_5 : decode b_Row_number 5 = .ok (.istore 4, 2) := by decide +kernel
theorem d_Row_number_7 : decode b_Row_number 7 = .ok (.aload_n 0, 1) := by decide +kernel
theorem d_Row_number_8 : decode b_Row_number 8 = .ok (.iload 4, 2) := by decide +kernel
theorem d_Row_number_10 : decode b_Row_number 10 = .ok (.invokevirtual 46, 3) := by decide +kernel
theorem d_Row_number_13 : decode b_Row_number 13 = .ok (.aload_n 0, 1) := by decide +kernel
theorem d_Row_number_14 : decode b_Row_number 14 = .ok (.iload 4, 2) := by decide +kernel
theorem d_Row_number_16 : decode b_Row_number 16 = .ok (.iconst 1, 1) := by decide +kernel
theorem d_Row_number_17 : decode b_Row_number 17 = .ok (.iadd, 1) := by decide +kernel
theorem d_Row_number_18 : decode b_Row_number 18 = .ok (.invokevirtual 46, 3) := by decide +kernel
theorem d_Row_number_21 : decode b_Row_number 21 = .ok (.bipush 8, 2) := by decide +kernel
theorem d_Row_number_23 : decode b_Row_number 23 = .ok (.ishl, 1) := by decide +kernel
theorem d_Row_number_24 : decode b_Row_number 24 = .ok (.ior, 1) := by decide +kernel
theorem d_Row_number_25 : decode b_Row_number 25 = .ok (.aload_n 0, 1) := by decide +kernel
theorem d_Row_number_26 : decode b_Row_number 26 = .ok (.iload 4, 2) := by decide +kernel
theorem d_Row_number_28 : decode b_Row_number 28 = .ok (.iconst 2, 1) := by decide +kernel
theorem d_Row_number_29 : decode b_Row_number 29 = .ok (.iadd, 1) := by decide +kernel
theorem d_Row_number_30 : decode b_Row_number 30 = .ok (.invokevirtual 46, 3) := by decide +kernel
theorem d_Row_number_33 : decode b_Row_number 33 = .ok (.bipush 16, 2) := by decide +kernel
theorem d_Row_number_35 : decode b_Row_number 35 = .ok (.ishl, 1) := by decide +kernel
theorem d_Row_number_36 : decode b_Row_number 36 = .ok (.ior, 1) := by decide +kernel
theorem d_Row_number_37 : decode b_Row_number 37 = .ok (.istore 5, 2) := by decide +kernel
theorem d_Row_number_39 : decode b_Row_number 39 = .ok (.iload 5, 2) := by decide +kernel
theorem d_Row_number_41 : decode b_Row_number 41 = .ok (.iload_n 2, 1) := by decide +kernel
theorem d_Row_number_42 : decode b_Row_number 42 = .ok (.bipush 7, 2) := by decide +kernel
theorem d_Row_number_44 : decode b_Row_number 44 = .ok (.iand, 1) := by decide +kernel
theorem d_Row_number_45 : decode b_Row_number 45 = .ok (.ishr, 1) := by decide +kernel
theorem d_Row_number_46 : decode b_Row_number 46 = .ok (.iconst 1, 1) := by decide +kernel
theorem d_Row_number_47 : decode b_Row_number 47 = .ok (.iload_n 3, 1) := by decide +kernel
theorem d_Row_number_48 : decode b_Row_number 48 = .ok (.ishl, 1) := by decide +kernel
theorem d_Row_number_49 : decode b_Row_number 49 = .ok (.iconst 1, 1) := by decide +kernel
theorem d_Row_number_50 : decode b_Row_number 50 = .ok (.isub, 1) := by decide +kernel
theorem d_Row_number_51 : decode b_Row_number 51 = .ok (.iand, 1) := by decide +kernel
theorem d_Row_number_52 : decode b_Row_number 52 = .ok (.ireturn, 1) := by decide +kernel
theorem d_Row_startTaking_0 : decode b_Row_startTaking 0 = .ok (.aload_n 0, 1) := by decide +kernel
theorem d_Row_startTaking_1 : decode b_Row_startTaking 1 = .ok (.iload_n 1, 1) := by decide +kernel
theorem d_Row_startTaking_2 : decode b_Row_startTaking 2 = .ok (.putfield 50, 3) := by decide +kernel
theorem d_Row_startTaking_5 : decode b_Row_startTaking 5 = .ok (.aload_n 0, 1) := by decide +kernel
theorem d_Row_startTaking_6 : decode b_Row_startTaking 6 = .ok (.iconst 0, 1) := by decide +kernel
theorem d_Row_startTaking_7 : decode b_Row_startTaking 7 = .ok (.putfield 53, 3) := by decide +kernel
theorem d_Row_startTaking_10 : decode b_Row_startTaking 10 = .ok (.return_, 1) := by decide +kernel
theorem d_Row_hasBits_0 : decode b_Row_hasBits 0 = .ok (.aload_n 0, 1) := by decide +kernel
theorem d_Row_hasBits_1 : decode b_Row_hasBits 1 = .ok (.getfield 53, 3) := by decide +kernel
theorem d_Row_hasBits_4 : decode b_Row_hasBits 4 = .ok (.iload_n 1, 1) := by decide +kernel
theorem d_Row_hasBits_5 : decode b_Row_hasBits 5 = .ok (.iadd, 1) := by decide +kernel
theorem d_Row_hasBits_6 : decode b_Row_hasBits 6 = .ok (.bipush 8, 2) := by decide +kernel
theorem d_Row_hasBits_8 : decode b_Row_hasBits 8 = .ok (.aload_n 0, 1) := by decide +kernel
theorem d_Row_hasBits_9 : decode b_Row_hasBits 9 = .ok (.getfield 15, 3) := by decide +kernel
theorem d_Row_hasBits_12 : decode b_Row_hasBits 12 = .ok (.aload_n 0, 1) := by decide +kernel
theorem d_Row_hasBits_13 : decode b_Row_hasBits 13 = .ok (.getfield 50, 3) := by decide +kernel
theorem d_Row_hasBits_16 : decode b_Row_hasBits 16 = .ok (.isub, 1) := by decide +kernel
theorem d_Row_hasBits_17 : decode b_Row_hasBits 17 = .ok (.imul, 1) := by decide +kernel
theorem d_Row_hasBits_18 : decode b_Row_hasBits 18 = .ok (.if_icmp .gt 7, 3) := by decide +kernel
theorem d_Row_hasBits_21 : decode b_Row_hasBits 21 = .ok (.iconst 1, 1) := by decide +kernel
theorem d_Row_hasBits_22 : decode b_Row_hasBits 22 = .ok (.goto 4, 3) := by decide +kernel
theorem d_Row_hasBits_25 : decode b_Row_hasBits 25 = .ok (.iconst 0, 1) := by decide +kernel
theorem d_Row_hasBits_26 : decode b_Row_hasBits 26 = .ok (.ireturn, 1) := by decide +kernel
theorem d_Row_nextBits_0 : decode b_Row_nextBits 0 = .ok (.aload_n 0, 1) := by decide +kernel
theorem d_Row_nextBits_1 : decode b_Row_nextBits 1 = .ok (.aload_n 0, 1) := by decide +kernel
theorem d_Row_nextBits_2 : decode b_Row_nextBits 2 = .ok (.getfield 50, 3) := by decide +kernel
theorem d_Row_nextBits_5 : decode b_Row_nextBits 5 = .ok (.aload_n 0, 1) := by decide +kernel
theorem d_Row_nextBits_6 : decode b_Row_nextBits 6 = .ok (.getfield 53, 3) := by decide +kernel
theorem d_Row_nextBits_9 : decode b_Row_nextBits 9 = .ok (.iload_n 1, 1) := by decide +kernel
theorem d_Row_nextBits_10 : decode b_Row_nextBits 10 = .ok (.invokevirtual 56, 3) := by decide +kernel
theorem d_Row_nextBits_13 : decode b_Row_nextBits 13 = .ok (.ireturn, 1) := by decide +kernel
theorem d_Row_takeBits_0 : decode b_Row_takeBits 0 = .ok (.aload_n 0, 1) := by decide +kernel
theorem d_Row_takeBits_1 : decode b_Row_takeBits 1 = .ok (.iload_n 1, 1) := by decide +kernel
theorem d_Row_takeBits_2 : decode b_Row_takeBits 2 = .ok (.invokevirtual 60, 3) := by decide +kernel
theorem d_Row_takeBits_5 : decode b_Row_takeBits 5 = .ok (.istore_n 2, 1) := by decide +kernel
theorem d_Row_takeBits_6 : decode b_Row_takeBits 6 = .ok (.aload_n 0, 1) := by decide +kernel
theorem d_Row_takeBits_7 : decode b_Row_takeBits 7 = .ok (.dup, 1) := by decide +kernel
theorem d_Row_takeBits_8 : decode b_Row_takeBits 8 = .ok (.getfield 53, 3) := by decide +kernel
theorem d_Row_takeBits_11 : decode b_Row_takeBits 11 = .ok (.iload_n 1, 1) := by decide +kernel
theorem d_Row_takeBits_12 : decode b_Row_takeBits 12 = .ok (.iadd, 1) := by decide +kernel
theorem d_Row_takeBits_13 : decode b_Row_takeBits 13 = .ok (.putfield 53, 3) := by decide +kernel
theorem d_Row_takeBits_16 : decode b_Row_takeBits 16 = .ok (.iload_n 2, 1) := by decide +kernel
theorem d_Row_takeBits_17 : decode b_Row_takeBits 17 = .ok (.ireturn, 1) := by decide +kernel
theorem d_Row_bytesTaken_0 : decode b_Row_bytesTaken 0 = .ok (.aload_n 0, 1) := by decide +kernel
theorem d_Row_bytesTaken_1 : decode b_Row_bytesTaken 1 = .ok (.getfield 53, 3) := by decide +kernel
theorem d_Row_bytesTaken_4 : decode b_Row_bytesTaken 4 = .ok (.bipush 7, 2) := by decide +kernel
theorem d_Row_bytesTaken_6 : decode b_Row_bytesTaken 6 = .ok (.iadd, 1) := by decide +kernel
theorem d_Row_bytesTaken_7 : decode b_Row_bytesTaken 7 = .ok (.iconst 3, 1) := by decide +kernel
theorem d_Row_bytesTaken_8 : decode b_Row_bytesTaken 8 = .ok (.ishr, 1) := by decide +kernel
theorem d_Row_bytesTaken_9 : decode b_Row_bytesTaken 9 = .ok (.ireturn, 1) := by decide +kernel
theorem d_Row_putBits_0 : decode b_Row_putBits 0 = .ok (.aload_n 0, 1) := by decide +kernel
theorem d_Row_putBits_1 : decode b_Row_putBits 1 = .ok (.dup, 1) := by decide +kernel
theorem d_Row_putBits_2 : decode b_Row_putBits 2 = .ok (.getfield 19, 3) := by decide +kernel
theorem d_Row_putBits_5 : decode b_Row_putBits 5 = .ok (.iload_n 1, 1) := by decide +kernel
theorem d_Row_putBits_6 : decode b_Row_putBits 6 = .ok (.aload_n 0, 1) := by decide +kernel
theorem d_Row_putBits_7 : decode b_Row_putBits 7 = .ok (.getfield 22, 3) := by decide +kernel
theorem d_Row_putBits_10 : decode b_Row_putBits 10 = .ok (.ishl, 1) := by decide +kernel
theorem d_Row_putBits_11 : decode b_Row_putBits 11 = .ok (.ior, 1) := by decide +kernel
theorem d_Row_putBits_12 : decode b_Row_putBits 12 = .ok (.putfield 19, 3) := by decide +kernel
theorem d_Row_putBits_15 : decode b_Row_putBits 15 = .ok (.aload_n 0, 1) := by decide +kernel
theorem d_Row_putBits_16 : decode b_Row_putBits 16 = .ok (.dup, 1) := by decide +kernel
theorem d_Row_putBits_17 : decode b_Row_putBits 17 = .ok (.getfield 22, 3) := by decide +kernel
theorem d_Row_putBits_20 : decode b_Row_putBits 20 = .ok (.iload_n 2, 1) := by decide +kernel
theorem d_Row_putBits_21 : decode b_Row_putBits 21 = .ok (.iadd, 1) := by decide +kernel
theorem d_Row_putBits_22 : decode b_Row_putBits 22 = .ok (.putfield 22, 3) := by decide +kernel
theorem d_Row_putBits_25 : decode b_Row_putBits 25 = .ok (.aload_n 0, 1) := by decide +kernel
theorem d_Row_putBits_26 : decode b_Row_putBits 26 = .ok (.getfield 22, 3) := by decide +kernel
theorem d_Row_putBits_29 : decode b_Row_putBits 29 = .ok (.bipush 8, 2) := by decide +kernel
theorem d_Row_putBits_31 : decode b_Row_putBits 31 = .ok (.if_icmp .lt 40, 3) := by decide +kernel
theorem d_Row_putBits_34 : decode b_Row_putBits 34 = .ok (.aload_n 0, 1) := by decide +kernel
theorem d_Row_putBits_35 : decode b_Row_putBits 35 = .ok (.aload_n 0, 1) := by decide +kernel
theorem d_Row_putBits_36 : decode b_Row_putBits 36 = .ok (.getfield 19, 3) := by decide +kernel
theorem d_Row_putBits_39 : decode b_Row_putBits 39 = .ok (.sipush 255, 3) := by decide +kernel
theorem d_Row_putBits_42 : decode b_Row_putBits 42 = .ok (.iand, 1) := by decide +kernel
theorem d_Row_putBits_43 : decode b_Row_putBits 43 = .ok (.invokevirtual 38, 3) := by decide +kernel
theorem d_Row_putBits_46 : decode b_Row_putBits 46 = .ok (.aload_n 0, 1) := by decide +kernel
theorem d_Row_putBits_47 : decode b_Row_putBits 47 = .ok (.dup, 1) := by decide +kernel
theorem d_Row_putBits_48 : decode b_Row_putBits 48 = .ok (.getfield 19, 3) := by decide +kernel
theorem d_Row_putBits_51 : decode b_Row_putBits 51 = .ok (.bipush 8, 2) := by decide +kernel
theorem d_Row_putBits_53 : decode b_Row_putBits 53 = .ok (.ishr, 1) := by decide +kernel
theorem d_Row_putBits_54 : decode b_Row_putBits 54 = .ok (.putfield 19, 3) := by decide +kernel
theorem d_Row_putBits_57 : decode b_Row_putBits 57 = .ok (.aload_n 0, 1) := by decide +kernel
theorem d_Row_putBits_58 : decode b_Row_putBits 58 = .ok (.dup, 1) := by decide +kernel
theorem d_Row_putBits_59 : decode b_Row_putBits 59 = .ok (.getfield 22, 3) := by decide +kernel
theorem d_Row_putBits_62 : decode b_Row_putBits 62 = .ok (.bipush 8, 2) := by decide +kernel
theorem d_Row_putBits_64 : decode b_Row_putBits 64 = .ok (.isub, 1) := by decide +kernel
theorem d_Row_putBits_65 : decode b_Row_putBits 65 = .ok (.putfield 22, 3) := by decide +kernel
theorem d_Row_putBits_68 : decode b_Row_putBits 68 = .ok (.goto (-43), 3) := by decide +kernel
theorem d_Row_putBits_71 : decode b_Row_putBits 71 = .ok (.return_, 1) := by decide +kernel
theorem d_Row_closeBits_0 : decode b_Row_closeBits 0 = .ok (.aload_n 0, 1) := by decide +kernel
theorem d_Row_closeBits_1 : decode b_Row_closeBits 1 = .ok (.getfield 22, 3) := by decide +kernel
theorem d_Row_closeBits_4 : decode b_Row_closeBits 4 = .ok (.ifCond .le 15, 3) := by decide +kernel
theorem d_Row_closeBits_7 : decode b_Row_closeBits 7 = .ok (.aload_n 0, 1) := by decide +kernel
theorem d_Row_closeBits_8 : decode b_Row_closeBits 8 = .ok (.iconst 0, 1) := by decide +kernel
theorem d_Row_closeBits_9 : decode b_Row_closeBits 9 = .ok (.bipush 8, 2) := by decide +kernel
theorem d_Row_closeBits_11 : decode b_Row_closeBits 11 = .ok (.aload_n 0, 1) := by decide +kernel
theorem d_Row_closeBits_12 : decode b_Row_closeBits 12 = .ok (.getfield 22, 3) := by decide +kernel
theorem d_Row_closeBits_15 : decode b_Row_closeBits 15 = .ok (.isub, 1) := by decide +kernel
theorem d_Row_closeBits_16 : decode b_Row_closeBits 16 = .ok (.invokevirtual 42, 3) := by decide +kernel
theorem d_Row_closeBits_19 : decode b_Row_closeBits 19 = .ok (.return_, 1) := by decide +kernel
theorem d_Row_copyFrom_0 : decode b_Row_copyFrom 0 = .ok (.aload_n 0, 1) := by decide +kernel
theorem d_Row_copyFrom_1 : decode b_Row_copyFrom 1 = .ok (.invokevirtual 29, 3) := by decide +kernel
theorem d_Row_copyFrom_4 : decode b_Row_copyFrom 4 = .ok (.aload_n 1, 1) := by decide +kernel
theorem d_Row_copyFrom_5 : decode b_Row_copyFrom 5 = .ok (.getfield 9, 3) := by decide +kernel
theorem d_Row_copyFrom_8 : decode b_Row_copyFrom 8 = .ok (.iconst 0, 1) := by decide +kernel
theorem d_Row_copyFrom_9 : decode b_Row_copyFrom 9 = .ok (.aload_n 0, 1) := by decide +kernel
theorem d_Row_copyFrom_10 : decode b_Row_copyFrom 10 = .ok (.getfield 9, 3) := by decide +kernel
theorem d_Row_copyFrom_13 : decode b_Row_copyFrom 13 = .ok (.iconst 0, 1) := by decide +kernel
theorem d_Row_copyFrom_14 : decode b_Row_copyFrom 14 = .ok (.sipush 6000, 3) := by decide +kernel
theorem d_Row_copyFrom_17 : decode b_Row_copyFrom 17 = .ok (.invokestatic 32, 3) := by decide +kernel
theorem d_Row_copyFrom_20 : decode b_Row_copyFrom 20 = .ok (.aload_n 0, 1) := by decide +kernel
theorem d_Row_copyFrom_21 : decode b_Row_copyFrom 21 = .ok (.aload_n 1, 1) := by decide +kernel
theorem d_Row_copyFrom_22 : decode b_Row_copyFrom 22 = .ok (.getfield 15, 3) := by decide +kernel
theorem d_Row_copyFrom_25 : decode b_Row_copyFrom 25 = .ok (.putfield 15, 3) := by decide +kernel
theorem d_Row_copyFrom_28 : decode b_Row_copyFrom 28 = .ok (.return_, 1) := by decide +kernel
theorem d_Row_init_0 : decode b_Row_init 0 = .ok (.aload_n 0, 1) := by decide +kernel
theorem d_Row_init_1 : decode b_Row_init 1 = .ok (.invokespecial 3, 3) := by decide +kernel
theorem d_Row_init_4 : decode b_Row_init 4 = .ok (.aload_n 0, 1) := by decide +kernel
theorem d_Row_init_5 : decode b_Row_init 5 = .ok (.sipush 6000, 3) := by decide +kernel
theorem d_Row_init_8 : decode b_Row_init 8 = .ok (.newarray .byte, 2) := by decide +kernel
theorem d_Row_init_10 : decode b_Row_init 10 = .ok (.putfield 9, 3) := by decide +kernel
theorem d_Row_init_13 : decode b_Row_init 13 = .ok (.return_, 1) := by decide +kernel
abbrev rm_Row_length : Room := { frames := 0, cells := 0, slots := 0, locals := 0 }
set_option maxHeartbeats 4000000 in
set_option maxRecDepth 100000 in
theorem c_Row_length (l : Launch) (D : va_G) (cI cB cZ : ClassId) (h : Nat) (hb : Nat) (L : Int) (hd : Int) (hn : Int) (ov : Int) (ts : Int) (tb : Int) : Met l y_Row_length (.code y_Row_length b_Row_length 1 (some .int) :: zT) rm_Row_length (zRc D classes (TY cI cB cZ) [(h, .inr (0, [.ref hb, .int (iZ L), .int (iZ hd), .int (iZ hn), .int (iZ ov), .int (iZ ts), .int (iZ tb)]))] [.ref h]) (zSi (fun z => z = L)) 0 0 (fun _ => False) := by
  refine z_ofr (by decide) (Nat.le_of_ble_eq_true rfl) (Or.inl rfl) ?_
  intro p e s m args below meth c Q E jP jK jret ls jl
  obtain ⟨jx, jb, jrt, jml, jown, jts, jlk⟩ := E
  have jown : s.vm.findClass R_Row = some m.cls := jown
  have jl : lv_has ls 1 [(0, .ref h)] := jl
  refine lv_aload_n jx jb d_Row_length_0 rfl (lv_at jl 0 rfl) ?_
  refine va_get (D := D) (ci := 0) (v := .int (iZ L)) (C := R_Row) (T := F_Row) (N := 7) jx jb jts i_Row jown jK.1 jP 0 rfl rfl 1 (by decide) (jts _ fl_Row_15) (fun _ h9 => h9) rfl d_Row_length_1 ?_
  exact jret _ _ _ (Or.inl rfl) (rfl) d_Row_length_4
abbrev rm_Row_isOverfull : Room := { frames := 0, cells := 0, slots := 0, locals := 0 }
set_option maxHeartbeats 4000000 in
set_option maxRecDepth 100000 in
theorem c_Row_isOverfull (l : Launch) (D : va_G) (cI cB cZ : ClassId) (h : Nat) (hb : Nat) (L : Int) (hd : Int) (hn : Int) (ov : Int) (ts : Int) (tb : Int) (hov : ov = 0 ∨ ov = 1) : Met l y_Row_isOverfull (.code y_Row_isOverfull b_Row_isOverfull 1 (some .boolean) :: zT) rm_Row_isOverfull (zRc D classes (TY cI cB cZ) [(h, .inr (0, [.ref hb, .int (iZ L), .int (iZ hd), .int (iZ hn), .int (iZ ov), .int (iZ ts), .int (iZ tb)]))] [.ref h]) (zSi (fun z => z = ov)) 0 0 (fun _ => False) := by
  refine z_ofr (by decide) (Nat.le_of_ble_eq_true rfl) (Or.inr rfl) ?_
  intro p e s m args below meth c Q E jP jK jret ls jl
  obtain ⟨jx, jb, jrt, jml, jown, jts, jlk⟩ := E
  have jown : s.vm.findClass R_Row = some m.cls := jown
  have jl : lv_has ls 1 [(0, .ref h)] := jl
  refine lv_aload_n jx jb d_Row_isOverfull_0 rfl (lv_at jl 0 rfl) ?_
  refine va_get (D := D) (ci := 0) (v := .int (iZ ov)) (C := R_Row) (T := F_Row) (N := 7) jx jb jts i_Row jown jK.1 jP 0 rfl rfl 4 (by decide) (jts _ fl_Row_25) (fun _ h9 => h9) rfl d_Row_isOverfull_1 ?_
  exact jret _ _ _ (Or.inr (hov)) (rfl) d_Row_isOverfull_4
abbrev rm_Row_empty : Room := { frames := 0, cells := 0, slots := 0, locals := 0 }
set_option maxHeartbeats 4000000 in
set_option maxRecDepth 100000 in
theorem c_Row_empty (l : Launch) (D : va_G) (cI cB cZ : ClassId) (sz : Nat) (h : Nat) (hb : Nat) (L : Int) (hd : Int) (hn : Int) (ov : Int) (ts : Int) (tb : Int) : Met l y_Row_empty (.code y_Row_empty b_Row_empty 1 none :: zT) rm_Row_empty (zPc D classes (TY cI cB cZ) [(h, .inr (0, [.ref hb, .int (iZ L), .int (iZ hd), .int (iZ hn), .int (iZ ov), .int (iZ ts), .int (iZ tb)]))] sz [.ref h]) (zFv (S := Unit) D classes (fun _u => True) (fun _u => [(h, .inr (0, [.ref hb, .int (iZ 0), .int (iZ 0), .int (iZ 0), .int (iZ 0), .int (iZ ts), .int (iZ tb)]))]) (va_A [(h, .inr (0, [.ref hb, .int (iZ L), .int (iZ hd), .int (iZ hn), .int (iZ ov), .int (iZ ts), .int (iZ tb)]))] sz)) 0 0 (va_A [(h, .inr (0, [.ref hb, .int (iZ L), .int (iZ hd), .int (iZ hn), .int (iZ ov), .int (iZ ts), .int (iZ tb)]))] sz) := by
  refine z_ofv (by decide) (Nat.le_of_ble_eq_true rfl) rfl ?_
  intro p e s m args below meth c A Q E jmn jA jK jret H locs jP jD jS ls jl
  obtain ⟨jx, jb, jrt, jml, jown, jts, jlk⟩ := E
  have jown : s.vm.findClass R_Row = some m.cls := jown
  have jl : lv_has ls 1 [(0, .ref h)] := jl
  refine lv_aload_n jx jb d_Row_empty_0 rfl (lv_at jl 0 rfl) ?_
  refine lv_iconst (v := iZ 0) jx jb d_Row_empty_1 rfl ?_
  refine va_put (D := D) (ci := 0) (v := .int (iZ 0)) (ty := .int) (C := R_Row) (T := F_Row) (N := 7) jx jb jts i_Row t_Row t_Row_ok n_Row jown jK.1 jP jD jS 0 rfl rfl 1 (by decide) (jts _ fl_Row_15) (fun _ h9 => h9) rfl (by decide +kernel) rfl rfl (Nat.le_of_ble_eq_true rfl) d_Row_empty_2 (fun H locs jP jD jS => ?_)
  have jP : va_P D classes [(h, .inr (0, [.ref hb, .int (iZ 0), .int (iZ hd), .int (iZ hn), .int (iZ ov), .int (iZ ts), .int (iZ tb)]))] H := jP
  have jD : va_D A [(h, .inr (0, [.ref hb, .int (iZ 0), .int (iZ hd), .int (iZ hn), .int (iZ ov), .int (iZ ts), .int (iZ tb)]))] := jD
  refine lv_aload_n jx jb d_Row_empty_5 rfl (lv_at jl 0 rfl) ?_
  refine lv_iconst (v := iZ 0) jx jb d_Row_empty_6 rfl ?_
  refine va_put (D := D) (ci := 0) (v := .int (iZ 0)) (ty := .int) (C := R_Row) (T := F_Row) (N := 7) jx jb jts i_Row t_Row t_Row_ok n_Row jown jK.1 jP jD jS 0 rfl rfl 2 (by decide) (jts _ fl_Row_19) (fun _ h9 => h9) rfl (by decide +kernel) rfl rfl (Nat.le_of_ble_eq_true rfl) d_Row_empty_7 (fun H locs jP jD jS => ?_)
  have jP : va_P D classes [(h, .inr (0, [.ref hb, .int (iZ 0), .int (iZ 0), .int (iZ hn), .int (iZ ov), .int (iZ ts), .int (iZ tb)]))] H := jP
  have jD : va_D A [(h, .inr (0, [.ref hb, .int (iZ 0), .int (iZ 0), .int (iZ hn), .int (iZ ov), .int (iZ ts), .int (iZ tb)]))] := jD
  refine lv_aload_n jx jb d_Row_empty_10 rfl (lv_at jl 0 rfl) ?_
  refine lv_iconst (v := iZ 0) jx jb d_Row_empty_11 rfl ?_
  refine va_put (D := D) (ci := 0) (v := .int (iZ 0)) (ty := .int) (C := R_Row) (T := F_Row) (N := 7) jx jb jts i_Row t_Row t_Row_ok n_Row jown jK.1 jP jD jS 0 rfl rfl 3 (by decide) (jts _ fl_Row_22) (fun _ h9 => h9) rfl (by decide +kernel) rfl rfl (Nat.le_of_ble_eq_true rfl) d_Row_empty_12 (fun H locs jP jD jS => ?_)
  have jP : va_P D classes [(h, .inr (0, [.ref hb, .int (iZ 0), .int (iZ 0), .int (iZ 0), .int (iZ ov), .int (iZ ts), .int (iZ tb)]))] H := jP
  have jD : va_D A [(h, .inr (0, [.ref hb, .int (iZ 0), .int (iZ 0), .int (iZ 0), .int (iZ ov), .int (iZ ts), .int (iZ tb)]))] := jD
  refine lv_aload_n jx jb d_Row_empty_15 rfl (lv_at jl 0 rfl) ?_
  refine lv_iconst (v := iZ 0) jx jb d_Row_empty_16 rfl ?_
  refine va_put (D := D) (ci := 0) (v := .int (iZ 0)) (ty := .boolean) (C := R_Row) (T := F_Row) (N := 7) jx jb jts i_Row t_Row t_Row_ok n_Row jown jK.1 jP jD jS 0 rfl rfl 4 (by decide) (jts _ fl_Row_25) (fun _ h9 => h9) rfl (by decide +kernel) rfl rfl (Nat.le_of_ble_eq_true rfl) d_Row_empty_17 (fun H locs jP jD jS => ?_)
  have jP : va_P D classes [(h, .inr (0, [.ref hb, .int (iZ 0), .int (iZ 0), .int (iZ 0), .int (iZ 0), .int (iZ ts), .int (iZ tb)]))] H := jP
  have jD : va_D A [(h, .inr (0, [.ref hb, .int (iZ 0), .int (iZ 0), .int (iZ 0), .int (iZ 0), .int (iZ ts), .int (iZ tb)]))] := jD
  exact jret _ _ () _ _ (trivial) (jP.sub [0] rfl) (jD.sub [0] (by decide) rfl) jS d_Row_empty_20
abbrev rm_Row_add : Room := { frames := 0, cells := 0, slots := 0, locals := 0 }
set_option maxHeartbeats 4000000 in
set_option maxRecDepth 100000 in
theorem c_Row_add (l : Launch) (D : va_G) (cI cB cZ : ClassId) (sz : Nat) (h : Nat) (hb : Nat) (L : Int) (hd : Int) (hn : Int) (ov : Int) (ts : Int) (tb : Int) (f : Nat → Int) (b : Int) (hL : 0 ≤ L ∧ L ≤ 6000) : Met l y_Row_add (.code y_Row_add b_Row_add 2 none :: zT) rm_Row_add (zPc D classes (TY cI cB cZ) [(h, .inr (0, [.ref hb, .int (iZ L), .int (iZ hd), .int (iZ hn), .int (iZ ov), .int (iZ ts), .int (iZ tb)])), (hb, .inl (cB, 6000, .inl (zA f)))] sz [.ref h, .int (iZ b)]) (zFv (S := Int × Int × (Nat → Int)) D classes (fun u => rAdd L ov f b u.1 u.2.1 u.2.2) (fun u => [(h, .inr (0, [.ref hb, .int (iZ u.1), .int (iZ hd), .int (iZ hn), .int (iZ u.2.1), .int (iZ ts), .int (iZ tb)])), (hb, .inl (cB, 6000, .inl (zA u.2.2)))]) (va_A [(h, .inr (0, [.ref hb, .int (iZ L), .int (iZ hd), .int (iZ hn), .int (iZ ov), .int (iZ ts), .int (iZ tb)])), (hb, .inl (cB, 6000, .inl (zA f)))] sz)) 0 0 (va_A [(h, .inr (0, [.ref hb, .int (iZ L), .int (iZ hd), .int (iZ hn), .int (iZ ov), .int (iZ ts), .int (iZ tb)])), (hb, .inl (cB, 6000, .inl (zA f)))] sz) := by
  refine z_ofv (by decide) (Nat.le_of_ble_eq_true rfl) rfl ?_
  intro p e s m args below meth c A Q E jmn jA jK jret H locs jP jD jS ls jl
  obtain ⟨jx, jb, jrt, jml, jown, jts, jlk⟩ := E
  have jown : s.vm.findClass R_Row = some m.cls := jown
  have jl : lv_has ls 2 [(0, .ref h), (1, .int (iZ b))] := jl
  refine lv_aload_n jx jb d_Row_add_0 rfl (lv_at jl 0 rfl) ?_
  refine va_get (D := D) (ci := 0) (v := .int (iZ L)) (C := R_Row) (T := F_Row) (N := 7) jx jb jts i_Row jown jK.1 jP 0 rfl rfl 1 (by decide) (jts _ fl_Row_15) (fun _ h9 => h9) rfl d_Row_add_1 ?_
  refine z_if_lt (tgt := 41) jx jb d_Row_add_4 (by decide) ⟨by omega, by omega⟩ (fun hc4 => ?_) (fun hc4 => ?_)
  ·
    exfalso; omega
  ·
    refine lv_aload_n jx jb d_Row_add_7 rfl (lv_at jl 0 rfl) ?_
    refine va_get (D := D) (ci := 0) (v := .int (iZ L)) (C := R_Row) (T := F_Row) (N := 7) jx jb jts i_Row jown jK.1 jP 0 rfl rfl 1 (by decide) (jts _ fl_Row_15) (fun _ h9 => h9) rfl d_Row_add_8 ?_
    refine lv_sipush (v := iZ 6000) jx jb d_Row_add_11 (by decide) ?_
    refine z_icmp_ge (tgt := 41) jx jb d_Row_add_14 (by decide) ⟨⟨by omega, by omega⟩, ⟨by decide, by decide⟩⟩ (fun hc14 => ?_) (fun hc14 => ?_)
    ·
      refine lv_aload_n jx jb d_Row_add_41 rfl (lv_at jl 0 rfl) ?_
      refine lv_iconst (v := iZ 1) jx jb d_Row_add_42 rfl ?_
      refine va_put (D := D) (ci := 0) (v := .int (iZ 1)) (ty := .boolean) (C := R_Row) (T := F_Row) (N := 7) jx jb jts i_Row t_Row t_Row_ok n_Row jown jK.1 jP jD jS 0 rfl rfl 4 (by decide) (jts _ fl_Row_25) (fun _ h9 => h9) rfl (by decide +kernel) rfl rfl (Nat.le_of_ble_eq_true rfl) d_Row_add_43 (fun H locs jP jD jS => ?_)
      have jP : va_P D classes [(h, .inr (0, [.ref hb, .int (iZ L), .int (iZ hd), .int (iZ hn), .int (iZ 1), .int (iZ ts), .int (iZ tb)])), (hb, .inl (cB, 6000, .inl (zA f)))] H := jP
      have jD : va_D A [(h, .inr (0, [.ref hb, .int (iZ L), .int (iZ hd), .int (iZ hn), .int (iZ 1), .int (iZ ts), .int (iZ tb)])), (hb, .inl (cB, 6000, .inl (zA f)))] := jD
      exact jret _ _ (L, 1, f) _ _ (by first | exact Or.inl ⟨by omega, rfl, rfl, by rw [bm_bm]⟩ | exact Or.inr ⟨by omega, rfl, rfl, rfl⟩) (jP.sub [0, 1] rfl) (jD.sub [0, 1] (by decide) rfl) jS d_Row_add_46
    ·
      refine lv_aload_n jx jb d_Row_add_17 rfl (lv_at jl 0 rfl) ?_
      refine va_get (D := D) (ci := 0) (v := .ref hb) (C := R_Row) (T := F_Row) (N := 7) jx jb jts i_Row jown jK.1 jP 0 rfl rfl 0 (by decide) (jts _ fl_Row_9) (fun _ h9 => h9) rfl d_Row_add_18 ?_
      refine lv_aload_n jx jb d_Row_add_21 rfl (lv_at jl 0 rfl) ?_
      refine va_get (D := D) (ci := 0) (v := .int (iZ L)) (C := R_Row) (T := F_Row) (N := 7) jx jb jts i_Row jown jK.1 jP 0 rfl rfl 1 (by decide) (jts _ fl_Row_15) (fun _ h9 => h9) rfl d_Row_add_22 ?_
      refine lv_iload_n jx jb d_Row_add_25 rfl (lv_at jl 1 rfl) ?_
      refine z_i2b jx jb d_Row_add_26 ?_
      refine z_bast jx jb jK.1 jP jD jS 1 1 rfl rfl L.toNat (by omega) d_Row_add_27 (fun H locs jP jD jS => ?_)
      have jP : va_P D classes [(h, .inr (0, [.ref hb, .int (iZ L), .int (iZ hd), .int (iZ hn), .int (iZ ov), .int (iZ ts), .int (iZ tb)])), (hb, .inl (cB, 6000, .inl (zA (zu f L.toNat ((b.bmod 256).bmod 256)))))] H := jP
      have jD : va_D A [(h, .inr (0, [.ref hb, .int (iZ L), .int (iZ hd), .int (iZ hn), .int (iZ ov), .int (iZ ts), .int (iZ tb)])), (hb, .inl (cB, 6000, .inl (zA (zu f L.toNat ((b.bmod 256).bmod 256)))))] := jD
      refine lv_aload_n jx jb d_Row_add_28 rfl (lv_at jl 0 rfl) ?_
      refine lv_dup jx jb d_Row_add_29 rfl ?_
      refine va_get (D := D) (ci := 0) (v := .int (iZ L)) (C := R_Row) (T := F_Row) (N := 7) jx jb jts i_Row jown jK.1 jP 0 rfl rfl 1 (by decide) (jts _ fl_Row_15) (fun _ h9 => h9) rfl d_Row_add_30 ?_
      refine lv_iconst (v := iZ 1) jx jb d_Row_add_33 rfl ?_
      refine z_iadd jx jb d_Row_add_34 ?_
      refine va_put (D := D) (ci := 0) (v := .int (iZ (L + 1))) (ty := .int) (C := R_Row) (T := F_Row) (N := 7) jx jb jts i_Row t_Row t_Row_ok n_Row jown jK.1 jP jD jS 0 rfl rfl 1 (by decide) (jts _ fl_Row_15) (fun _ h9 => h9) rfl (by decide +kernel) rfl rfl (Nat.le_of_ble_eq_true rfl) d_Row_add_35 (fun H locs jP jD jS => ?_)
      have jP : va_P D classes [(h, .inr (0, [.ref hb, .int (iZ (L + 1)), .int (iZ hd), .int (iZ hn), .int (iZ ov), .int (iZ ts), .int (iZ tb)])), (hb, .inl (cB, 6000, .inl (zA (zu f L.toNat ((b.bmod 256).bmod 256)))))] H := jP
      have jD : va_D A [(h, .inr (0, [.ref hb, .int (iZ (L + 1)), .int (iZ hd), .int (iZ hn), .int (iZ ov), .int (iZ ts), .int (iZ tb)])), (hb, .inl (cB, 6000, .inl (zA (zu f L.toNat ((b.bmod 256).bmod 256)))))] := jD
      refine lv_goto (tgt := 46) jx jb d_Row_add_38 (by decide) ?_
      exact jret _ _ ((L + 1), ov, (zu f L.toNat ((b.bmod 256).bmod 256))) _ _ (by first | exact Or.inl ⟨by omega, rfl, rfl, by rw [bm_bm]⟩ | exact Or.inr ⟨by omega, rfl, rfl, rfl⟩) (jP.sub [0, 1] rfl) (jD.sub [0, 1] (by decide) rfl) jS d_Row_add_46
abbrev rm_Row_byteOrZero : Room := { frames := 0, cells := 0, slots := 0, locals := 0 }
set_option maxHeartbeats 4000000 in
set_option maxRecDepth 100000 in
theorem c_Row_byteOrZero (l : Launch) (D : va_G) (cI cB cZ : ClassId) (h : Nat) (hb : Nat) (L : Int) (hd : Int) (hn : Int) (ov : Int) (ts : Int) (tb : Int) (f : Nat → Int) (k : Int) (hL : 0 ≤ L ∧ L ≤ 6000) (hk : -2147483648 ≤ k ∧ k < 2147483648) : Met l y_Row_byteOrZero (.code y_Row_byteOrZero b_Row_byteOrZero 2 (some .int) :: zT) rm_Row_byteOrZero (zRc D classes (TY cI cB cZ) [(h, .inr (0, [.ref hb, .int (iZ L), .int (iZ hd), .int (iZ hn), .int (iZ ov), .int (iZ ts), .int (iZ tb)])), (hb, .inl (cB, 6000, .inl (zA f)))] [.ref h, .int (iZ k)]) (zSi (fun z => z = rb8 f L k)) 0 0 (fun _ => False) := by
  refine z_ofr (by decide) (Nat.le_of_ble_eq_true rfl) (Or.inl rfl) ?_
  intro p e s m args below meth c Q E jP jK jret ls jl
  obtain ⟨jx, jb, jrt, jml, jown, jts, jlk⟩ := E
  have jown : s.vm.findClass R_Row = some m.cls := jown
  have jl : lv_has ls 2 [(0, .ref h), (1, .int (iZ k))] := jl
  refine lv_iload_n jx jb d_Row_byteOrZero_0 rfl (lv_at jl 1 rfl) ?_
  refine z_if_lt (tgt := 19) jx jb d_Row_byteOrZero_1 (by decide) ⟨by omega, by omega⟩ (fun hc1 => ?_) (fun hc1 => ?_)
  ·
    refine lv_iconst (v := iZ 0) jx jb d_Row_byteOrZero_19 rfl ?_
    refine lv_goto (tgt := 33) jx jb d_Row_byteOrZero_20 (by decide) ?_
    exact jret _ _ _ (Or.inl rfl) (by first | exact (if_neg (by omega)).symm | exact (if_pos (by omega)).symm) d_Row_byteOrZero_33
  ·
    refine lv_iload_n jx jb d_Row_byteOrZero_4 rfl (lv_at jl 1 rfl) ?_
    refine lv_aload_n jx jb d_Row_byteOrZero_5 rfl (lv_at jl 0 rfl) ?_
    refine va_get (D := D) (ci := 0) (v := .int (iZ L)) (C := R_Row) (T := F_Row) (N := 7) jx jb jts i_Row jown jK.1 jP 0 rfl rfl 1 (by decide) (jts _ fl_Row_15) (fun _ h9 => h9) rfl d_Row_byteOrZero_6 ?_
    refine z_icmp_ge (tgt := 19) jx jb d_Row_byteOrZero_9 (by decide) ⟨⟨by omega, by omega⟩, ⟨by omega, by omega⟩⟩ (fun hc9 => ?_) (fun hc9 => ?_)
    ·
      refine lv_iconst (v := iZ 0) jx jb d_Row_byteOrZero_19 rfl ?_
      refine lv_goto (tgt := 33) jx jb d_Row_byteOrZero_20 (by decide) ?_
      exact jret _ _ _ (Or.inl rfl) (by first | exact (if_neg (by omega)).symm | exact (if_pos (by omega)).symm) d_Row_byteOrZero_33
    ·
      refine lv_iload_n jx jb d_Row_byteOrZero_12 rfl (lv_at jl 1 rfl) ?_
      refine lv_sipush (v := iZ 6000) jx jb d_Row_byteOrZero_13 (by decide) ?_
      refine z_icmp_lt (tgt := 23) jx jb d_Row_byteOrZero_16 (by decide) ⟨⟨by omega, by omega⟩, ⟨by decide, by decide⟩⟩ (fun hc16 => ?_) (fun hc16 => ?_)
      ·
        refine lv_aload_n jx jb d_Row_byteOrZero_23 rfl (lv_at jl 0 rfl) ?_
        refine va_get (D := D) (ci := 0) (v := .ref hb) (C := R_Row) (T := F_Row) (N := 7) jx jb jts i_Row jown jK.1 jP 0 rfl rfl 0 (by decide) (jts _ fl_Row_9) (fun _ h9 => h9) rfl d_Row_byteOrZero_24 ?_
        refine lv_iload_n jx jb d_Row_byteOrZero_27 rfl (lv_at jl 1 rfl) ?_
        refine z_bald jx jb jK.1 jP 1 1 rfl rfl k.toNat (by omega) d_Row_byteOrZero_28 ?_
        refine lv_sipush (v := iZ 255) jx jb d_Row_byteOrZero_29 (by decide) ?_
        refine z_iand jx jb d_Row_byteOrZero_32 8 256 (rfl) (rfl) (by decide) ?_
        exact jret _ _ _ (Or.inl rfl) (by first | exact (if_neg (by omega)).symm | exact (if_pos (by omega)).symm) d_Row_byteOrZero_33
      ·
        exfalso; omega
abbrev rm_Row_number : Room := { frames := 1, cells := 0, slots := 0, locals := 21 }
set_option maxHeartbeats 4000000 in
set_option maxRecDepth 100000 in
theorem c_Row_number (l : Launch) (D : va_G) (cI cB cZ : ClassId) (h : Nat) (hb : Nat) (L : Int) (hd : Int) (hn : Int) (ov : Int) (ts : Int) (tb : Int) (f : Nat → Int) (a : Int) (t : Int) (n : Nat) (hL : 0 ≤ L ∧ L ≤ 6000) (ha : 0 ≤ a ∧ a ≤ 100000 ∧ 0 ≤ t ∧ t ≤ 1000000) (hn13 : n ≤ 13) : Met l y_Row_number (.code y_Row_number b_Row_number 6 (some .int) :: zT) rm_Row_number (zRc D classes (TY cI cB cZ) [(h, .inr (0, [.ref hb, .int (iZ L), .int (iZ hd), .int (iZ hn), .int (iZ ov), .int (iZ ts), .int (iZ tb)])), (hb, .inl (cB, 6000, .inl (zA f)))] [.ref h, .int (iZ a), .int (iZ t), .int (iZ (n : Int))]) (zSi (fun z => z = rNum f L a t n)) 0 0 (fun _ => False) := by
  refine z_ofr (by decide) (Nat.le_of_ble_eq_true rfl) (Or.inl rfl) ?_
  intro p e s m args below meth c Q E jP jK jret ls jl
  obtain ⟨jx, jb, jrt, jml, jown, jts, jlk⟩ := E
  have jown : s.vm.findClass R_Row = some m.cls := jown
  have jl : lv_has ls 6 [(0, .ref h), (1, .int (iZ a)), (2, .int (iZ t)), (3, .int (iZ (n : Int)))] := jl
  refine lv_iload_n jx jb d_Row_number_0 rfl (lv_at jl 1 rfl) ?_
  refine lv_iload_n jx jb d_Row_number_1 rfl (lv_at jl 2 rfl) ?_
  refine lv_iconst (v := iZ 3) jx jb d_Row_number_2 rfl ?_
  refine z_ishr jx jb d_Row_number_3 3 8 (rfl) (by omega) ?_
  refine z_iadd jx jb d_Row_number_4 ?_
  refine lv_istore (lv' := [(4, .int (iZ (a + (t / 8)))), (0, .ref h), (1, .int (iZ a)), (2, .int (iZ t)), (3, .int (iZ (n : Int)))]) jx jb d_Row_number_5 jl (by decide) rfl (fun ls jl => ?_)
  refine lv_aload_n jx jb d_Row_number_7 rfl (lv_at jl 1 rfl) ?_
  refine lv_iload jx jb d_Row_number_8 (lv_at jl 0 rfl) ?_
  refine z_backe (va_runV (As := [.int (iZ (a + (t / 8)))]) (rest := []) ⟨jx, jb, jml, jown, jts⟩ (c_Row_byteOrZero l D cI cB cZ h hb L hd hn ov ts tb f (a + (t / 8)) (by first | assumption | omega) (by first | assumption | omega)) (zc_V 1 jts cd_Row_byteOrZero lk_Row_46 im_Row_byteOrZero se_Row_byteOrZero in_Row hd_Row_byteOrZero ⟨Nat.le_of_ble_eq_true rfl, Nat.le_of_ble_eq_true rfl⟩ rfl rfl) (z_preVR jK jP [0, 1] rfl rfl rfl) rfl rfl jl.1 rfl (lv_room (Nat.le_of_ble_eq_true rfl)) d_Row_number_10 ⟨Nat.le_of_ble_eq_true rfl, Nat.le_of_ble_eq_true rfl⟩) ?_
  have q10 := rb8_lo f L (a + t / 8)
  have r10 := rb8_hi f L (a + t / 8)
  refine lv_aload_n jx jb d_Row_number_13 rfl (lv_at jl 1 rfl) ?_
  refine lv_iload jx jb d_Row_number_14 (lv_at jl 0 rfl) ?_
  refine lv_iconst (v := iZ 1) jx jb d_Row_number_16 rfl ?_
  refine z_iadd jx jb d_Row_number_17 ?_
  refine z_backe (va_runV (As := [.int (iZ ((a + (t / 8)) + 1))]) (rest := [.int (iZ (rb8 f L (a + (t / 8))))]) ⟨jx, jb, jml, jown, jts⟩ (c_Row_byteOrZero l D cI cB cZ h hb L hd hn ov ts tb f ((a + (t / 8)) + 1) (by first | assumption | omega) (by first | assumption | omega)) (zc_V 1 jts cd_Row_byteOrZero lk_Row_46 im_Row_byteOrZero se_Row_byteOrZero in_Row hd_Row_byteOrZero ⟨Nat.le_of_ble_eq_true rfl, Nat.le_of_ble_eq_true rfl⟩ rfl rfl) (z_preVR jK jP [0, 1] rfl rfl rfl) rfl rfl jl.1 rfl (lv_room (Nat.le_of_ble_eq_true rfl)) d_Row_number_18 ⟨Nat.le_of_ble_eq_true rfl, Nat.le_of_ble_eq_true rfl⟩) ?_
  have q18 := rb8_lo f L (a + t / 8 + 1)
  have r18 := rb8_hi f L (a + t / 8 + 1)
  refine lv_bipush (v := iZ 8) jx jb d_Row_number_21 (by decide) ?_
  refine z_ishl jx jb d_Row_number_23 8 256 (rfl) (by omega) ?_
  refine z_ior jx jb d_Row_number_24 8 256 (rfl) (rb8 f L (a + t / 8 + 1)) (rfl) (by omega) ?_
  refine lv_aload_n jx jb d_Row_number_25 rfl (lv_at jl 1 rfl) ?_
  refine lv_iload jx jb d_Row_number_26 (lv_at jl 0 rfl) ?_
  refine lv_iconst (v := iZ 2) jx jb d_Row_number_28 rfl ?_
  refine z_iadd jx jb d_Row_number_29 ?_
  refine z_backe (va_runV (As := [.int (iZ ((a + (t / 8)) + 2))]) (rest := [.int (iZ ((rb8 f L (a + (t / 8))) + (rb8 f L (a + t / 8 + 1)) * 256))]) ⟨jx, jb, jml, jown, jts⟩ (c_Row_byteOrZero l D cI cB cZ h hb L hd hn ov ts tb f ((a + (t / 8)) + 2) (by first | assumption | omega) (by first | assumption | omega)) (zc_V 1 jts cd_Row_byteOrZero lk_Row_46 im_Row_byteOrZero se_Row_byteOrZero in_Row hd_Row_byteOrZero ⟨Nat.le_of_ble_eq_true rfl, Nat.le_of_ble_eq_true rfl⟩ rfl rfl) (z_preVR jK jP [0, 1] rfl rfl rfl) rfl rfl jl.1 rfl (lv_room (Nat.le_of_ble_eq_true rfl)) d_Row_number_30 ⟨Nat.le_of_ble_eq_true rfl, Nat.le_of_ble_eq_true rfl⟩) ?_
  have q30 := rb8_lo f L (a + t / 8 + 2)
  have r30 := rb8_hi f L (a + t / 8 + 2)
  refine lv_bipush (v := iZ 16) jx jb d_Row_number_33 (by decide) ?_
  refine z_ishl jx jb d_Row_number_35 16 65536 (rfl) (by omega) ?_
  refine z_ior jx jb d_Row_number_36 16 65536 (rfl) (rb8 f L (a + t / 8 + 2)) (rfl) (by omega) ?_
  refine lv_istore (lv' := [(5, .int (iZ (((rb8 f L (a + (t / 8))) + (rb8 f L (a + t / 8 + 1)) * 256) + (rb8 f L (a + t / 8 + 2)) * 65536))), (4, .int (iZ (a + (t / 8)))), (0, .ref h), (1, .int (iZ a)), (2, .int (iZ t)), (3, .int (iZ (n : Int)))]) jx jb d_Row_number_37 jl (by decide) rfl (fun ls jl => ?_)
  refine lv_iload jx jb d_Row_number_39 (lv_at jl 0 rfl) ?_
  refine lv_iload_n jx jb d_Row_number_41 rfl (lv_at jl 4 rfl) ?_
  refine lv_bipush (v := iZ 7) jx jb d_Row_number_42 (by decide) ?_
  refine z_iand jx jb d_Row_number_44 3 8 (rfl) (rfl) (by decide) ?_
  refine z_ishr jx jb d_Row_number_45 ((t % 8).toNat) (2 ^ ((t % 8).toNat)) (rfl) (by omega) ?_
  refine lv_iconst (v := iZ 1) jx jb d_Row_number_46 rfl ?_
  refine lv_iload_n jx jb d_Row_number_47 rfl (lv_at jl 5 rfl) ?_
  refine z_ishl jx jb d_Row_number_48 n (2 ^ n) (rfl) (by omega) ?_
  refine z_top (2 ^ n) (Int.one_mul _) ?_
  refine lv_iconst (v := iZ 1) jx jb d_Row_number_49 rfl ?_
  refine z_isub jx jb d_Row_number_50 ?_
  refine z_iand jx jb d_Row_number_51 n (2 ^ n) (rfl) (rfl) (by omega) ?_
  exact jret _ _ _ (Or.inl rfl) (rfl) d_Row_number_52
abbrev rm_Row_startTaking : Room := { frames := 0, cells := 0, slots := 0, locals := 0 }
set_option maxHeartbeats 4000000 in
set_option maxRecDepth 100000 in
theorem c_Row_startTaking (l : Launch) (D : va_G) (cI cB cZ : ClassId) (sz : Nat) (h : Nat) (hb : Nat) (L : Int) (hd : Int) (hn : Int) (ov : Int) (ts : Int) (tb : Int) (a : Int) : Met l y_Row_startTaking (.code y_Row_startTaking b_Row_startTaking 2 none :: zT) rm_Row_startTaking (zPc D classes (TY cI cB cZ) [(h, .inr (0, [.ref hb, .int (iZ L), .int (iZ hd), .int (iZ hn), .int (iZ ov), .int (iZ ts), .int (iZ tb)]))] sz [.ref h, .int (iZ a)]) (zFv (S := Unit) D classes (fun _u => True) (fun _u => [(h, .inr (0, [.ref hb, .int (iZ L), .int (iZ hd), .int (iZ hn), .int (iZ ov), .int (iZ a), .int (iZ 0)]))]) (va_A [(h, .inr (0, [.ref hb, .int (iZ L), .int (iZ hd), .int (iZ hn), .int (iZ ov), .int (iZ ts), .int (iZ tb)]))] sz)) 0 0 (va_A [(h, .inr (0, [.ref hb, .int (iZ L), .int (iZ hd), .int (iZ hn), .int (iZ ov), .int (iZ ts), .int (iZ tb)]))] sz) := by
  refine z_ofv (by decide) (Nat.le_of_ble_eq_true rfl) rfl ?_
  intro p e s m args below meth c A Q E jmn jA jK jret H locs jP jD jS ls jl
  obtain ⟨jx, jb, jrt, jml, jown, jts, jlk⟩ := E
  have jown : s.vm.findClass R_Row = some m.cls := jown
  have jl : lv_has ls 2 [(0, .ref h), (1, .int (iZ a))] := jl
  refine lv_aload_n jx jb d_Row_startTaking_0 rfl (lv_at jl 0 rfl) ?_
  refine lv_iload_n jx jb d_Row_startTaking_1 rfl (lv_at jl 1 rfl) ?_
  refine va_put (D := D) (ci := 0) (v := .int (iZ a)) (ty := .int) (C := R_Row) (T := F_Row) (N := 7) jx jb jts i_Row t_Row t_Row_ok n_Row jown jK.1 jP jD jS 0 rfl rfl 5 (by decide) (jts _ fl_Row_50) (fun _ h9 => h9) rfl (by decide +kernel) rfl rfl (Nat.le_of_ble_eq_true rfl) d_Row_startTaking_2 (fun H locs jP jD jS => ?_)
  have jP : va_P D classes [(h, .inr (0, [.ref hb, .int (iZ L), .int (iZ hd), .int (iZ hn), .int (iZ ov), .int (iZ a), .int (iZ tb)]))] H := jP
  have jD : va_D A [(h, .inr (0, [.ref hb, .int (iZ L), .int (iZ hd), .int (iZ hn), .int (iZ ov), .int (iZ a), .int (iZ tb)]))] := jD
  refine lv_aload_n jx jb d_Row_startTaking_5 rfl (lv_at jl 0 rfl) ?_
  refine lv_iconst (v := iZ 0) jx jb d_Row_startTaking_6 rfl ?_
  refine va_put (D := D) (ci := 0) (v := .int (iZ 0)) (ty := .int) (C := R_Row) (T := F_Row) (N := 7) jx jb jts i_Row t_Row t_Row_ok n_Row jown jK.1 jP jD jS 0 rfl rfl 6 (by decide) (jts _ fl_Row_53) (fun _ h9 => h9) rfl (by decide +kernel) rfl rfl (Nat.le_of_ble_eq_true rfl) d_Row_startTaking_7 (fun H locs jP jD jS => ?_)
  have jP : va_P D classes [(h, .inr (0, [.ref hb, .int (iZ L), .int (iZ hd), .int (iZ hn), .int (iZ ov), .int (iZ a), .int (iZ 0)]))] H := jP
  have jD : va_D A [(h, .inr (0, [.ref hb, .int (iZ L), .int (iZ hd), .int (iZ hn), .int (iZ ov), .int (iZ a), .int (iZ 0)]))] := jD
  exact jret _ _ () _ _ (trivial) (jP.sub [0] rfl) (jD.sub [0] (by decide) rfl) jS d_Row_startTaking_10
abbrev rm_Row_hasBits : Room := { frames := 0, cells := 0, slots := 0, locals := 0 }
set_option maxHeartbeats 4000000 in
set_option maxRecDepth 100000 in
theorem c_Row_hasBits (l : Launch) (D : va_G) (cI cB cZ : ClassId) (h : Nat) (hb : Nat) (L : Int) (hd : Int) (hn : Int) (ov : Int) (ts : Int) (tb : Int) (n : Int) (hL : 0 ≤ L ∧ L ≤ 6000 ∧ 0 ≤ ts ∧ ts ≤ L ∧ 0 ≤ tb ∧ tb ≤ 1000000 ∧ 0 ≤ n ∧ n ≤ 1000) : Met l y_Row_hasBits (.code y_Row_hasBits b_Row_hasBits 2 (some .boolean) :: zT) rm_Row_hasBits (zRc D classes (TY cI cB cZ) [(h, .inr (0, [.ref hb, .int (iZ L), .int (iZ hd), .int (iZ hn), .int (iZ ov), .int (iZ ts), .int (iZ tb)]))] [.ref h, .int (iZ n)]) (zSi (fun z => (z = 1 ∧ tb + n ≤ 8 * (L - ts)) ∨ (z = 0 ∧ 8 * (L - ts) < tb + n))) 0 0 (fun _ => False) := by
  refine z_ofr (by decide) (Nat.le_of_ble_eq_true rfl) (Or.inr rfl) ?_
  intro p e s m args below meth c Q E jP jK jret ls jl
  obtain ⟨jx, jb, jrt, jml, jown, jts, jlk⟩ := E
  have jown : s.vm.findClass R_Row = some m.cls := jown
  have jl : lv_has ls 2 [(0, .ref h), (1, .int (iZ n))] := jl
  refine lv_aload_n jx jb d_Row_hasBits_0 rfl (lv_at jl 0 rfl) ?_
  refine va_get (D := D) (ci := 0) (v := .int (iZ tb)) (C := R_Row) (T := F_Row) (N := 7) jx jb jts i_Row jown jK.1 jP 0 rfl rfl 6 (by decide) (jts _ fl_Row_53) (fun _ h9 => h9) rfl d_Row_hasBits_1 ?_
  refine lv_iload_n jx jb d_Row_hasBits_4 rfl (lv_at jl 1 rfl) ?_
  refine z_iadd jx jb d_Row_hasBits_5 ?_
  refine lv_bipush (v := iZ 8) jx jb d_Row_hasBits_6 (by decide) ?_
  refine lv_aload_n jx jb d_Row_hasBits_8 rfl (lv_at jl 0 rfl) ?_
  refine va_get (D := D) (ci := 0) (v := .int (iZ L)) (C := R_Row) (T := F_Row) (N := 7) jx jb jts i_Row jown jK.1 jP 0 rfl rfl 1 (by decide) (jts _ fl_Row_15) (fun _ h9 => h9) rfl d_Row_hasBits_9 ?_
  refine lv_aload_n jx jb d_Row_hasBits_12 rfl (lv_at jl 0 rfl) ?_
  refine va_get (D := D) (ci := 0) (v := .int (iZ ts)) (C := R_Row) (T := F_Row) (N := 7) jx jb jts i_Row jown jK.1 jP 0 rfl rfl 5 (by decide) (jts _ fl_Row_50) (fun _ h9 => h9) rfl d_Row_hasBits_13 ?_
  refine z_isub jx jb d_Row_hasBits_16 ?_
  refine z_imul jx jb d_Row_hasBits_17 ?_
  refine z_icmp_gt (tgt := 25) jx jb d_Row_hasBits_18 (by decide) ⟨⟨by omega, by omega⟩, ⟨by omega, by omega⟩⟩ (fun hc18 => ?_) (fun hc18 => ?_)
  ·
    refine lv_iconst (v := iZ 0) jx jb d_Row_hasBits_25 rfl ?_
    exact jret _ _ _ (Or.inr (Or.inl rfl)) (by omega) d_Row_hasBits_26
  ·
    refine lv_iconst (v := iZ 1) jx jb d_Row_hasBits_21 rfl ?_
    refine lv_goto (tgt := 26) jx jb d_Row_hasBits_22 (by decide) ?_
    exact jret _ _ _ (Or.inr (Or.inr rfl)) (by omega) d_Row_hasBits_26
abbrev rm_Row_nextBits : Room := { frames := 2, cells := 0, slots := 0, locals := 46 }
set_option maxHeartbeats 4000000 in
set_option maxRecDepth 100000 in
theorem c_Row_nextBits (l : Launch) (D : va_G) (cI cB cZ : ClassId) (h : Nat) (hb : Nat) (L : Int) (hd : Int) (hn : Int) (ov : Int) (ts : Int) (tb : Int) (f : Nat → Int) (n : Nat) (hL : 0 ≤ L ∧ L ≤ 6000) (ha : 0 ≤ ts ∧ ts ≤ 100000 ∧ 0 ≤ tb ∧ tb ≤ 1000000) (hn13 : n ≤ 13) : Met l y_Row_nextBits (.code y_Row_nextBits b_Row_nextBits 2 (some .int) :: zT) rm_Row_nextBits (zRc D classes (TY cI cB cZ) [(h, .inr (0, [.ref hb, .int (iZ L), .int (iZ hd), .int (iZ hn), .int (iZ ov), .int (iZ ts), .int (iZ tb)])), (hb, .inl (cB, 6000, .inl (zA f)))] [.ref h, .int (iZ (n : Int))]) (zSi (fun z => z = rNum f L ts tb n)) 0 0 (fun _ => False) := by
  refine z_ofr (by decide) (Nat.le_of_ble_eq_true rfl) (Or.inl rfl) ?_
  intro p e s m args below meth c Q E jP jK jret ls jl
  obtain ⟨jx, jb, jrt, jml, jown, jts, jlk⟩ := E
  have jown : s.vm.findClass R_Row = some m.cls := jown
  have jl : lv_has ls 2 [(0, .ref h), (1, .int (iZ (n : Int)))] := jl
  refine lv_aload_n jx jb d_Row_nextBits_0 rfl (lv_at jl 0 rfl) ?_
  refine lv_aload_n jx jb d_Row_nextBits_1 rfl (lv_at jl 0 rfl) ?_
  refine va_get (D := D) (ci := 0) (v := .int (iZ ts)) (C := R_Row) (T := F_Row) (N := 7) jx jb jts i_Row jown jK.1 jP 0 rfl rfl 5 (by decide) (jts _ fl_Row_50) (fun _ h9 => h9) rfl d_Row_nextBits_2 ?_
  refine lv_aload_n jx jb d_Row_nextBits_5 rfl (lv_at jl 0 rfl) ?_
  refine va_get (D := D) (ci := 0) (v := .int (iZ tb)) (C := R_Row) (T := F_Row) (N := 7) jx jb jts i_Row jown jK.1 jP 0 rfl rfl 6 (by decide) (jts _ fl_Row_53) (fun _ h9 => h9) rfl d_Row_nextBits_6 ?_
  refine lv_iload_n jx jb d_Row_nextBits_9 rfl (lv_at jl 1 rfl) ?_
  refine z_backe (va_runV (As := [.int (iZ ts), .int (iZ tb), .int (iZ (n : Int))]) (rest := []) ⟨jx, jb, jml, jown, jts⟩ (c_Row_number l D cI cB cZ h hb L hd hn ov ts tb f ts tb n (by first | assumption | omega) (by first | assumption | omega) (by first | assumption | omega)) (zc_V 3 jts cd_Row_number lk_Row_56 im_Row_number se_Row_number in_Row hd_Row_number ⟨Nat.le_of_ble_eq_true rfl, Nat.le_of_ble_eq_true rfl⟩ rfl rfl) (z_preVR jK jP [0, 1] rfl rfl rfl) rfl rfl jl.1 rfl (lv_room (Nat.le_of_ble_eq_true rfl)) d_Row_nextBits_10 ⟨Nat.le_of_ble_eq_true rfl, Nat.le_of_ble_eq_true rfl⟩) ?_
  exact jret _ _ _ (Or.inl rfl) (rfl) d_Row_nextBits_13
abbrev rm_Row_takeBits : Room := { frames := 3, cells := 0, slots := 0, locals := 67 }
set_option maxHeartbeats 4000000 in
set_option maxRecDepth 100000 in
theorem c_Row_takeBits (l : Launch) (D : va_G) (cI cB cZ : ClassId) (sz : Nat) (h : Nat) (hb : Nat) (L : Int) (hd : Int) (hn : Int) (ov : Int) (ts : Int) (tb : Int) (f : Nat → Int) (n : Nat) (hL : 0 ≤ L ∧ L ≤ 6000) (ha : 0 ≤ ts ∧ ts ≤ 100000 ∧ 0 ≤ tb ∧ tb ≤ 1000000) (hn13 : n ≤ 13) : Met l y_Row_takeBits (.code y_Row_takeBits b_Row_takeBits 3 (some .int) :: zT) rm_Row_takeBits (zPc D classes (TY cI cB cZ) [(h, .inr (0, [.ref hb, .int (iZ L), .int (iZ hd), .int (iZ hn), .int (iZ ov), .int (iZ ts), .int (iZ tb)])), (hb, .inl (cB, 6000, .inl (zA f)))] sz [.ref h, .int (iZ (n : Int))]) (zFi (S := Unit) D classes (fun z _u => z = rNum f L ts tb n) (fun _u => [(h, .inr (0, [.ref hb, .int (iZ L), .int (iZ hd), .int (iZ hn), .int (iZ ov), .int (iZ ts), .int (iZ (tb + (n : Int)))])), (hb, .inl (cB, 6000, .inl (zA f)))]) (va_A [(h, .inr (0, [.ref hb, .int (iZ L), .int (iZ hd), .int (iZ hn), .int (iZ ov), .int (iZ ts), .int (iZ tb)])), (hb, .inl (cB, 6000, .inl (zA f)))] sz)) 0 0 (va_A [(h, .inr (0, [.ref hb, .int (iZ L), .int (iZ hd), .int (iZ hn), .int (iZ ov), .int (iZ ts), .int (iZ tb)])), (hb, .inl (cB, 6000, .inl (zA f)))] sz) := by
  refine z_ofi (by decide) (Nat.le_of_ble_eq_true rfl) (Or.inl rfl) ?_
  intro p e s m args below meth c A Q E jA jK jret H locs jP jD jS ls jl
  obtain ⟨jx, jb, jrt, jml, jown, jts, jlk⟩ := E
  have jown : s.vm.findClass R_Row = some m.cls := jown
  have jl : lv_has ls 3 [(0, .ref h), (1, .int (iZ (n : Int)))] := jl
  refine lv_aload_n jx jb d_Row_takeBits_0 rfl (lv_at jl 0 rfl) ?_
  refine lv_iload_n jx jb d_Row_takeBits_1 rfl (lv_at jl 1 rfl) ?_
  refine z_backe (va_runV (As := [.int (iZ (n : Int))]) (rest := []) ⟨jx, jb, jml, jown, jts⟩ (c_Row_nextBits l D cI cB cZ h hb L hd hn ov ts tb f n (by first | assumption | omega) (by first | assumption | omega) (by first | assumption | omega)) (zc_V 1 jts cd_Row_nextBits lk_Row_60 im_Row_nextBits se_Row_nextBits in_Row hd_Row_nextBits ⟨Nat.le_of_ble_eq_true rfl, Nat.le_of_ble_eq_true rfl⟩ rfl rfl) (z_preVR jK jP [0, 1] rfl rfl rfl) rfl rfl jl.1 rfl (lv_room (Nat.le_of_ble_eq_true rfl)) d_Row_takeBits_2 ⟨Nat.le_of_ble_eq_true rfl, Nat.le_of_ble_eq_true rfl⟩) ?_
  refine lv_istore_n (lv' := [(2, .int (iZ (rNum f L ts tb n))), (0, .ref h), (1, .int (iZ (n : Int)))]) jx jb d_Row_takeBits_5 rfl jl (by decide) rfl (fun ls jl => ?_)
  refine lv_aload_n jx jb d_Row_takeBits_6 rfl (lv_at jl 1 rfl) ?_
  refine lv_dup jx jb d_Row_takeBits_7 rfl ?_
  refine va_get (D := D) (ci := 0) (v := .int (iZ tb)) (C := R_Row) (T := F_Row) (N := 7) jx jb jts i_Row jown jK.1 jP 0 rfl rfl 6 (by decide) (jts _ fl_Row_53) (fun _ h9 => h9) rfl d_Row_takeBits_8 ?_
  refine lv_iload_n jx jb d_Row_takeBits_11 rfl (lv_at jl 2 rfl) ?_
  refine z_iadd jx jb d_Row_takeBits_12 ?_
  refine va_put (D := D) (ci := 0) (v := .int (iZ (tb + (n : Int)))) (ty := .int) (C := R_Row) (T := F_Row) (N := 7) jx jb jts i_Row t_Row t_Row_ok n_Row jown jK.1 jP jD jS 0 rfl rfl 6 (by decide) (jts _ fl_Row_53) (fun _ h9 => h9) rfl (by decide +kernel) rfl rfl (Nat.le_of_ble_eq_true rfl) d_Row_takeBits_13 (fun H locs jP jD jS => ?_)
  have jP : va_P D classes [(h, .inr (0, [.ref hb, .int (iZ L), .int (iZ hd), .int (iZ hn), .int (iZ ov), .int (iZ ts), .int (iZ (tb + (n : Int)))])), (hb, .inl (cB, 6000, .inl (zA f)))] H := jP
  have jD : va_D A [(h, .inr (0, [.ref hb, .int (iZ L), .int (iZ hd), .int (iZ hn), .int (iZ ov), .int (iZ ts), .int (iZ (tb + (n : Int)))])), (hb, .inl (cB, 6000, .inl (zA f)))] := jD
  refine lv_iload_n jx jb d_Row_takeBits_16 rfl (lv_at jl 0 rfl) ?_
  exact jret _ _ _ () _ _ (Or.inl rfl) (rfl) (jP.sub [0, 1] rfl) (jD.sub [0, 1] (by decide) rfl) jS d_Row_takeBits_17
abbrev rm_Row_bytesTaken : Room := { frames := 0, cells := 0, slots := 0, locals := 0 }
set_option maxHeartbeats 4000000 in
set_option maxRecDepth 100000 in
theorem c_Row_bytesTaken (l : Launch) (D : va_G) (cI cB cZ : ClassId) (h : Nat) (hb : Nat) (L : Int) (hd : Int) (hn : Int) (ov : Int) (ts : Int) (tb : Int) (ht : 0 ≤ tb ∧ tb ≤ 1000000) : Met l y_Row_bytesTaken (.code y_Row_bytesTaken b_Row_bytesTaken 1 (some .int) :: zT) rm_Row_bytesTaken (zRc D classes (TY cI cB cZ) [(h, .inr (0, [.ref hb, .int (iZ L), .int (iZ hd), .int (iZ hn), .int (iZ ov), .int (iZ ts), .int (iZ tb)]))] [.ref h]) (zSi (fun z => z = (tb + 7) / 8)) 0 0 (fun _ => False) := by
  refine z_ofr (by decide) (Nat.le_of_ble_eq_true rfl) (Or.inl rfl) ?_
  intro p e s m args below meth c Q E jP jK jret ls jl
  obtain ⟨jx, jb, jrt, jml, jown, jts, jlk⟩ := E
  have jown : s.vm.findClass R_Row = some m.cls := jown
  have jl : lv_has ls 1 [(0, .ref h)] := jl
  refine lv_aload_n jx jb d_Row_bytesTaken_0 rfl (lv_at jl 0 rfl) ?_
  refine va_get (D := D) (ci := 0) (v := .int (iZ tb)) (C := R_Row) (T := F_Row) (N := 7) jx jb jts i_Row jown jK.1 jP 0 rfl rfl 6 (by decide) (jts _ fl_Row_53) (fun _ h9 => h9) rfl d_Row_bytesTaken_1 ?_
  refine lv_bipush (v := iZ 7) jx jb d_Row_bytesTaken_4 (by decide) ?_
  refine z_iadd jx jb d_Row_bytesTaken_6 ?_
  refine lv_iconst (v := iZ 3) jx jb d_Row_bytesTaken_7 rfl ?_
  refine z_ishr jx jb d_Row_bytesTaken_8 3 8 (rfl) (by omega) ?_
  exact jret _ _ _ (Or.inl rfl) (rfl) d_Row_bytesTaken_9
abbrev rm_Row_putBits : Room := { frames := 1, cells := 0, slots := 0, locals := 21 }
set_option maxHeartbeats 4000000 in
set_option maxRecDepth 100000 in
theorem c_Row_putBits (l : Launch) (D : va_G) (cI cB cZ : ClassId) (sz : Nat) (h : Nat) (hb : Nat) (L : Int) (hd : Int) (hn : Int) (ov : Int) (ts : Int) (tb : Int) (f : Nat → Int) (x : Nat) (n : Nat) (V : Nat) (B : Nat) (hI : rI V B (B / 8) L hd hn ov f) (hxn : x < 2 ^ n) (hn13 : n ≤ 13) : Met l y_Row_putBits (.code y_Row_putBits b_Row_putBits 3 none :: zT) rm_Row_putBits (zPc D classes (TY cI cB cZ) [(h, .inr (0, [.ref hb, .int (iZ L), .int (iZ hd), .int (iZ hn), .int (iZ ov), .int (iZ ts), .int (iZ tb)])), (hb, .inl (cB, 6000, .inl (zA f)))] sz [.ref h, .int (iZ (x : Int)), .int (iZ (n : Int))]) (zFv (S := Int × Int × Int × Int × (Nat → Int)) D classes (fun u => rI (V + x * 2 ^ B) (B + n) ((B + n) / 8) u.1 u.2.1 u.2.2.1 u.2.2.2.1 u.2.2.2.2) (fun u => [(h, .inr (0, [.ref hb, .int (iZ u.1), .int (iZ u.2.1), .int (iZ u.2.2.1), .int (iZ u.2.2.2.1), .int (iZ ts), .int (iZ tb)])), (hb, .inl (cB, 6000, .inl (zA u.2.2.2.2)))]) (va_A [(h, .inr (0, [.ref hb, .int (iZ L), .int (iZ hd), .int (iZ hn), .int (iZ ov), .int (iZ ts), .int (iZ tb)])), (hb, .inl (cB, 6000, .inl (zA f)))] sz)) 0 0 (va_A [(h, .inr (0, [.ref hb, .int (iZ L), .int (iZ hd), .int (iZ hn), .int (iZ ov), .int (iZ ts), .int (iZ tb)])), (hb, .inl (cB, 6000, .inl (zA f)))] sz) := by
  refine z_ofv (by decide) (Nat.le_of_ble_eq_true rfl) rfl ?_
  intro p e s m args below meth c A Q E jmn jA jK jret H locs jP jD jS ls jl
  obtain ⟨jx, jb, jrt, jml, jown, jts, jlk⟩ := E
  have jown : s.vm.findClass R_Row = some m.cls := jown
  have hor := rI_or hI hxn hn13
  have hns := hI.2.2.1
  have jl : lv_has ls 3 [(0, .ref h), (1, .int (iZ (x : Int))), (2, .int (iZ (n : Int)))] := jl
  refine lv_aload_n jx jb d_Row_putBits_0 rfl (lv_at jl 0 rfl) ?_
  refine lv_dup jx jb d_Row_putBits_1 rfl ?_
  refine va_get (D := D) (ci := 0) (v := .int (iZ hd)) (C := R_Row) (T := F_Row) (N := 7) jx jb jts i_Row jown jK.1 jP 0 rfl rfl 2 (by decide) (jts _ fl_Row_19) (fun _ h9 => h9) rfl d_Row_putBits_2 ?_
  refine lv_iload_n jx jb d_Row_putBits_5 rfl (lv_at jl 1 rfl) ?_
  refine lv_aload_n jx jb d_Row_putBits_6 rfl (lv_at jl 0 rfl) ?_
  refine va_get (D := D) (ci := 0) (v := .int (iZ hn)) (C := R_Row) (T := F_Row) (N := 7) jx jb jts i_Row jown jK.1 jP 0 rfl rfl 3 (by decide) (jts _ fl_Row_22) (fun _ h9 => h9) rfl d_Row_putBits_7 ?_
  refine z_ishl jx jb d_Row_putBits_10 (B - 8 * (B / 8)) (2 ^ (B - 8 * (B / 8))) (rfl) (by omega) ?_
  refine z_ior jx jb d_Row_putBits_11 (B - 8 * (B / 8)) (2 ^ (B - 8 * (B / 8))) (rfl) (x : Int) (rfl) (hor) ?_
  refine va_put (D := D) (ci := 0) (v := .int (iZ (hd + (x : Int) * (2 ^ (B - 8 * (B / 8)))))) (ty := .int) (C := R_Row) (T := F_Row) (N := 7) jx jb jts i_Row t_Row t_Row_ok n_Row jown jK.1 jP jD jS 0 rfl rfl 2 (by decide) (jts _ fl_Row_19) (fun _ h9 => h9) rfl (by decide +kernel) rfl rfl (Nat.le_of_ble_eq_true rfl) d_Row_putBits_12 (fun H locs jP jD jS => ?_)
  have jP : va_P D classes [(h, .inr (0, [.ref hb, .int (iZ L), .int (iZ (hd + (x : Int) * (2 ^ (B - 8 * (B / 8))))), .int (iZ hn), .int (iZ ov), .int (iZ ts), .int (iZ tb)])), (hb, .inl (cB, 6000, .inl (zA f)))] H := jP
  have jD : va_D A [(h, .inr (0, [.ref hb, .int (iZ L), .int (iZ (hd + (x : Int) * (2 ^ (B - 8 * (B / 8))))), .int (iZ hn), .int (iZ ov), .int (iZ ts), .int (iZ tb)])), (hb, .inl (cB, 6000, .inl (zA f)))] := jD
  refine lv_aload_n jx jb d_Row_putBits_15 rfl (lv_at jl 0 rfl) ?_
  refine lv_dup jx jb d_Row_putBits_16 rfl ?_
  refine va_get (D := D) (ci := 0) (v := .int (iZ hn)) (C := R_Row) (T := F_Row) (N := 7) jx jb jts i_Row jown jK.1 jP 0 rfl rfl 3 (by decide) (jts _ fl_Row_22) (fun _ h9 => h9) rfl d_Row_putBits_17 ?_
  refine lv_iload_n jx jb d_Row_putBits_20 rfl (lv_at jl 2 rfl) ?_
  refine z_iadd jx jb d_Row_putBits_21 ?_
  refine va_put (D := D) (ci := 0) (v := .int (iZ (hn + (n : Int)))) (ty := .int) (C := R_Row) (T := F_Row) (N := 7) jx jb jts i_Row t_Row t_Row_ok n_Row jown jK.1 jP jD jS 0 rfl rfl 3 (by decide) (jts _ fl_Row_22) (fun _ h9 => h9) rfl (by decide +kernel) rfl rfl (Nat.le_of_ble_eq_true rfl) d_Row_putBits_22 (fun H locs jP jD jS => ?_)
  have jP : va_P D classes [(h, .inr (0, [.ref hb, .int (iZ L), .int (iZ (hd + (x : Int) * (2 ^ (B - 8 * (B / 8))))), .int (iZ (hn + (n : Int))), .int (iZ ov), .int (iZ ts), .int (iZ tb)])), (hb, .inl (cB, 6000, .inl (zA f)))] H := jP
  have jD : va_D A [(h, .inr (0, [.ref hb, .int (iZ L), .int (iZ (hd + (x : Int) * (2 ^ (B - 8 * (B / 8))))), .int (iZ (hn + (n : Int))), .int (iZ ov), .int (iZ ts), .int (iZ tb)])), (hb, .inl (cB, 6000, .inl (zA f)))] := jD
  have hloop25 : ∀ (nF : Nat) (N : Nat) (L2 : Int) (hd2 : Int) (hn2 : Int) (ov2 : Int) (f2 : Nat → Int), hn2.toNat < nF → (rI (V + x * 2 ^ B) (B + n) N L2 hd2 hn2 ov2 f2) → (hn2 ≤ 20) → ∀ (H : Heap) (locs : List Loc), va_P D classes [(h, .inr (0, [.ref hb, .int (iZ L2), .int (iZ hd2), .int (iZ hn2), .int (iZ ov2), .int (iZ ts), .int (iZ tb)])), (hb, .inl (cB, 6000, .inl (zA f2)))] H → va_D A [(h, .inr (0, [.ref hb, .int (iZ L2), .int (iZ hd2), .int (iZ hn2), .int (iZ ov2), .int (iZ ts), .int (iZ tb)])), (hb, .inl (cB, 6000, .inl (zA f2)))] → va_S A s.heap H locs → ∀ ls : Array Slot, lv_has ls 3 [(0, .ref h)] → W p l e rm_Row_putBits s m args below meth c H locs 0 0 Q (F0 m 25 ls []) := by
    intro nF
    induction nF with
    | zero => intro N L2 hd2 hn2 ov2 f2 hm; exact absurd hm (Nat.not_lt_zero _)
    | succ nF ih25 =>
      intro N L2 hd2 hn2 ov2 f2 hm hI2 hb2 H locs jP jD jS ls jl
      have hh2 := rI_hd hI2
      have hb3 := rI_small hI2 hb2
      refine lv_aload_n jx jb d_Row_putBits_25 rfl (lv_at jl 0 rfl) ?_
      refine va_get (D := D) (ci := 0) (v := .int (iZ hn2)) (C := R_Row) (T := F_Row) (N := 7) jx jb jts i_Row jown jK.1 jP 0 rfl rfl 3 (by decide) (jts _ fl_Row_22) (fun _ h9 => h9) rfl d_Row_putBits_26 ?_
      refine lv_bipush (v := iZ 8) jx jb d_Row_putBits_29 (by decide) ?_
      refine z_icmp_lt (tgt := 71) jx jb d_Row_putBits_31 (by decide) ⟨⟨by omega, by omega⟩, ⟨by decide, by decide⟩⟩ (fun hc31 => ?_) (fun hc31 => ?_)
      ·
        exact jret _ _ (L2, hd2, hn2, ov2, f2) _ _ (by rw [← rI_done hI2 (by omega)]; exact hI2) (jP.sub [0, 1] rfl) (jD.sub [0, 1] (by decide) rfl) jS d_Row_putBits_71
      ·
        refine lv_aload_n jx jb d_Row_putBits_34 rfl (lv_at jl 0 rfl) ?_
        refine lv_aload_n jx jb d_Row_putBits_35 rfl (lv_at jl 0 rfl) ?_
        refine va_get (D := D) (ci := 0) (v := .int (iZ hd2)) (C := R_Row) (T := F_Row) (N := 7) jx jb jts i_Row jown jK.1 jP 0 rfl rfl 2 (by decide) (jts _ fl_Row_19) (fun _ h9 => h9) rfl d_Row_putBits_36 ?_
        refine lv_sipush (v := iZ 255) jx jb d_Row_putBits_39 (by decide) ?_
        refine z_iand jx jb d_Row_putBits_42 8 256 (rfl) (rfl) (by decide) ?_
        refine z_backv (wr := []) jP jD jS jA [0, 1] [] rfl rfl (by decide) (by decide) (va_runV (As := [.int (iZ (hd2 % 256))]) (rest := []) ⟨jx, jb, jml, jown, jts⟩ (c_Row_add l D cI cB cZ H.size h hb L2 hd2 hn2 ov2 ts tb f2 (hd2 % 256) (by first | assumption | omega)) (zc_V 1 jts cd_Row_add lk_Row_38 im_Row_add se_Row_add in_Row hd_Row_add ⟨Nat.le_of_ble_eq_true rfl, Nat.le_of_ble_eq_true rfl⟩ rfl rfl) (z_preV jK jP jD [0, 1] (by decide) rfl rfl rfl rfl) rfl rfl jl.1 rfl (lv_room (Nat.le_of_ble_eq_true rfl)) d_Row_putBits_43 ⟨Nat.le_of_ble_eq_true rfl, Nat.le_of_ble_eq_true rfl⟩) (fun u43 H locs hu43 jP jD jS => ?_)
        obtain ⟨L1_43, ov1_43, f1_43⟩ := u43
        have jP : va_P D classes [(h, .inr (0, [.ref hb, .int (iZ L1_43), .int (iZ hd2), .int (iZ hn2), .int (iZ ov1_43), .int (iZ ts), .int (iZ tb)])), (hb, .inl (cB, 6000, .inl (zA f1_43)))] H := jP.sub [0, 1] rfl
        have jD : va_D A [(h, .inr (0, [.ref hb, .int (iZ L1_43), .int (iZ hd2), .int (iZ hn2), .int (iZ ov1_43), .int (iZ ts), .int (iZ tb)])), (hb, .inl (cB, 6000, .inl (zA f1_43)))] := jD.sub [0, 1] (by decide) rfl
        refine lv_aload_n jx jb d_Row_putBits_46 rfl (lv_at jl 0 rfl) ?_
        refine lv_dup jx jb d_Row_putBits_47 rfl ?_
        refine va_get (D := D) (ci := 0) (v := .int (iZ hd2)) (C := R_Row) (T := F_Row) (N := 7) jx jb jts i_Row jown jK.1 jP 0 rfl rfl 2 (by decide) (jts _ fl_Row_19) (fun _ h9 => h9) rfl d_Row_putBits_48 ?_
        refine lv_bipush (v := iZ 8) jx jb d_Row_putBits_51 (by decide) ?_
        refine z_ishr jx jb d_Row_putBits_53 8 256 (rfl) (by omega) ?_
        refine va_put (D := D) (ci := 0) (v := .int (iZ (hd2 / 256))) (ty := .int) (C := R_Row) (T := F_Row) (N := 7) jx jb jts i_Row t_Row t_Row_ok n_Row jown jK.1 jP jD jS 0 rfl rfl 2 (by decide) (jts _ fl_Row_19) (fun _ h9 => h9) rfl (by decide +kernel) rfl rfl (Nat.le_of_ble_eq_true rfl) d_Row_putBits_54 (fun H locs jP jD jS => ?_)
        have jP : va_P D classes [(h, .inr (0, [.ref hb, .int (iZ L1_43), .int (iZ (hd2 / 256)), .int (iZ hn2), .int (iZ ov1_43), .int (iZ ts), .int (iZ tb)])), (hb, .inl (cB, 6000, .inl (zA f1_43)))] H := jP
        have jD : va_D A [(h, .inr (0, [.ref hb, .int (iZ L1_43), .int (iZ (hd2 / 256)), .int (iZ hn2), .int (iZ ov1_43), .int (iZ ts), .int (iZ tb)])), (hb, .inl (cB, 6000, .inl (zA f1_43)))] := jD
        refine lv_aload_n jx jb d_Row_putBits_57 rfl (lv_at jl 0 rfl) ?_
        refine lv_dup jx jb d_Row_putBits_58 rfl ?_
        refine va_get (D := D) (ci := 0) (v := .int (iZ hn2)) (C := R_Row) (T := F_Row) (N := 7) jx jb jts i_Row jown jK.1 jP 0 rfl rfl 3 (by decide) (jts _ fl_Row_22) (fun _ h9 => h9) rfl d_Row_putBits_59 ?_
        refine lv_bipush (v := iZ 8) jx jb d_Row_putBits_62 (by decide) ?_
        refine z_isub jx jb d_Row_putBits_64 ?_
        refine va_put (D := D) (ci := 0) (v := .int (iZ (hn2 - 8))) (ty := .int) (C := R_Row) (T := F_Row) (N := 7) jx jb jts i_Row t_Row t_Row_ok n_Row jown jK.1 jP jD jS 0 rfl rfl 3 (by decide) (jts _ fl_Row_22) (fun _ h9 => h9) rfl (by decide +kernel) rfl rfl (Nat.le_of_ble_eq_true rfl) d_Row_putBits_65 (fun H locs jP jD jS => ?_)
        have jP : va_P D classes [(h, .inr (0, [.ref hb, .int (iZ L1_43), .int (iZ (hd2 / 256)), .int (iZ (hn2 - 8)), .int (iZ ov1_43), .int (iZ ts), .int (iZ tb)])), (hb, .inl (cB, 6000, .inl (zA f1_43)))] H := jP
        have jD : va_D A [(h, .inr (0, [.ref hb, .int (iZ L1_43), .int (iZ (hd2 / 256)), .int (iZ (hn2 - 8)), .int (iZ ov1_43), .int (iZ ts), .int (iZ tb)])), (hb, .inl (cB, 6000, .inl (zA f1_43)))] := jD
        refine lv_goto (tgt := 25) jx jb d_Row_putBits_68 (by decide) ?_
        exact ih25 (N + 1) L1_43 (hd2 / 256) (hn2 - 8) ov1_43 f1_43 (by omega) (rI_step hI2 (by omega) hu43) (by first | assumption | omega) _ _ (jP.sub [0, 1] rfl) (jD.sub [0, 1] (by decide) rfl) jS _ (lv_sub jl [0] rfl)
  exact hloop25 (((hn + (n : Int)).toNat) + 1) (B / 8) L (hd + (x : Int) * (2 ^ (B - 8 * (B / 8)))) (hn + (n : Int)) ov f (Nat.lt_succ_self _) (rI_put hI hxn) (by first | assumption | omega) _ _ (jP.sub [0, 1] rfl) (jD.sub [0, 1] (by decide) rfl) jS _ (lv_sub jl [0] rfl)
abbrev rm_Row_closeBits : Room := { frames := 2, cells := 0, slots := 0, locals := 43 }
set_option maxHeartbeats 4000000 in
set_option maxRecDepth 100000 in
theorem c_Row_closeBits (l : Launch) (D : va_G) (cI cB cZ : ClassId) (sz : Nat) (h : Nat) (hb : Nat) (L : Int) (hd : Int) (hn : Int) (ov : Int) (ts : Int) (tb : Int) (f : Nat → Int) (V : Nat) (B : Nat) (hI : rI V B (B / 8) L hd hn ov f) : Met l y_Row_closeBits (.code y_Row_closeBits b_Row_closeBits 1 none :: zT) rm_Row_closeBits (zPc D classes (TY cI cB cZ) [(h, .inr (0, [.ref hb, .int (iZ L), .int (iZ hd), .int (iZ hn), .int (iZ ov), .int (iZ ts), .int (iZ tb)])), (hb, .inl (cB, 6000, .inl (zA f)))] sz [.ref h]) (zFv (S := Int × Int × Int × Int × (Nat → Int)) D classes (fun u => rI V (8 * ((B + 7) / 8)) ((B + 7) / 8) u.1 u.2.1 u.2.2.1 u.2.2.2.1 u.2.2.2.2) (fun u => [(h, .inr (0, [.ref hb, .int (iZ u.1), .int (iZ u.2.1), .int (iZ u.2.2.1), .int (iZ u.2.2.2.1), .int (iZ ts), .int (iZ tb)])), (hb, .inl (cB, 6000, .inl (zA u.2.2.2.2)))]) (va_A [(h, .inr (0, [.ref hb, .int (iZ L), .int (iZ hd), .int (iZ hn), .int (iZ ov), .int (iZ ts), .int (iZ tb)])), (hb, .inl (cB, 6000, .inl (zA f)))] sz)) 0 0 (va_A [(h, .inr (0, [.ref hb, .int (iZ L), .int (iZ hd), .int (iZ hn), .int (iZ ov), .int (iZ ts), .int (iZ tb)])), (hb, .inl (cB, 6000, .inl (zA f)))] sz) := by
  refine z_ofv (by decide) (Nat.le_of_ble_eq_true rfl) rfl ?_
  intro p e s m args below meth c A Q E jmn jA jK jret H locs jP jD jS ls jl
  obtain ⟨jx, jb, jrt, jml, jown, jts, jlk⟩ := E
  have jown : s.vm.findClass R_Row = some m.cls := jown
  have hns := hI.2.2.1
  have jl : lv_has ls 1 [(0, .ref h)] := jl
  refine lv_aload_n jx jb d_Row_closeBits_0 rfl (lv_at jl 0 rfl) ?_
  refine va_get (D := D) (ci := 0) (v := .int (iZ hn)) (C := R_Row) (T := F_Row) (N := 7) jx jb jts i_Row jown jK.1 jP 0 rfl rfl 3 (by decide) (jts _ fl_Row_22) (fun _ h9 => h9) rfl d_Row_closeBits_1 ?_
  refine z_if_le (tgt := 19) jx jb d_Row_closeBits_4 (by decide) ⟨by omega, by omega⟩ (fun hc4 => ?_) (fun hc4 => ?_)
  ·
    exact jret _ _ (L, hd, hn, ov, f) _ _ (by first | exact rI_same hI (by omega) | exact rI_pad hu16 (by omega)) (jP.sub [0, 1] rfl) (jD.sub [0, 1] (by decide) rfl) jS d_Row_closeBits_19
  ·
    refine lv_aload_n jx jb d_Row_closeBits_7 rfl (lv_at jl 0 rfl) ?_
    refine lv_iconst (v := iZ 0) jx jb d_Row_closeBits_8 rfl ?_
    refine lv_bipush (v := iZ 8) jx jb d_Row_closeBits_9 (by decide) ?_
    refine lv_aload_n jx jb d_Row_closeBits_11 rfl (lv_at jl 0 rfl) ?_
    refine va_get (D := D) (ci := 0) (v := .int (iZ hn)) (C := R_Row) (T := F_Row) (N := 7) jx jb jts i_Row jown jK.1 jP 0 rfl rfl 3 (by decide) (jts _ fl_Row_22) (fun _ h9 => h9) rfl d_Row_closeBits_12 ?_
    refine z_isub jx jb d_Row_closeBits_15 ?_
    refine z_top ((8 - B % 8 : Nat) : Int) (by omega) ?_
    refine z_backv (wr := []) jP jD jS jA [0, 1] [] rfl rfl (by decide) (by decide) (va_runV (As := [.int (iZ 0), .int (iZ ((8 - B % 8 : Nat) : Int))]) (rest := []) ⟨jx, jb, jml, jown, jts⟩ (c_Row_putBits l D cI cB cZ H.size h hb L hd hn ov ts tb f 0 (8 - B % 8 : Nat) V B (by first | assumption | omega) (Nat.pow_pos (by decide)) (by omega)) (zc_V 2 jts cd_Row_putBits lk_Row_42 im_Row_putBits se_Row_putBits in_Row hd_Row_putBits ⟨Nat.le_of_ble_eq_true rfl, Nat.le_of_ble_eq_true rfl⟩ rfl rfl) (z_preV jK jP jD [0, 1] (by decide) rfl rfl rfl rfl) rfl rfl jl.1 rfl (lv_room (Nat.le_of_ble_eq_true rfl)) d_Row_closeBits_16 ⟨Nat.le_of_ble_eq_true rfl, Nat.le_of_ble_eq_true rfl⟩) (fun u16 H locs hu16 jP jD jS => ?_)
    obtain ⟨L1_16, hd1_16, hn1_16, ov1_16, f1_16⟩ := u16
    have jP : va_P D classes [(h, .inr (0, [.ref hb, .int (iZ L1_16), .int (iZ hd1_16), .int (iZ hn1_16), .int (iZ ov1_16), .int (iZ ts), .int (iZ tb)])), (hb, .inl (cB, 6000, .inl (zA f1_16)))] H := jP.sub [0, 1] rfl
    have jD : va_D A [(h, .inr (0, [.ref hb, .int (iZ L1_16), .int (iZ hd1_16), .int (iZ hn1_16), .int (iZ ov1_16), .int (iZ ts), .int (iZ tb)])), (hb, .inl (cB, 6000, .inl (zA f1_16)))] := jD.sub [0, 1] (by decide) rfl
    exact jret _ _ (L1_16, hd1_16, hn1_16, ov1_16, f1_16) _ _ (by first | exact rI_same hI (by omega) | exact rI_pad hu16 (by omega)) (jP.sub [0, 1] rfl) (jD.sub [0, 1] (by decide) rfl) jS d_Row_closeBits_19
abbrev rm_Row_copyFrom : Room := { frames := 1, cells := 0, slots := 0, locals := 60 }
set_option maxHeartbeats 4000000 in
set_option maxRecDepth 100000 in
theorem c_Row_copyFrom (l : Launch) (D : va_G) (cI cB cZ : ClassId) (sz : Nat) (h : Nat) (hb : Nat) (L : Int) (hd : Int) (hn : Int) (ov : Int) (ts : Int) (tb : Int) (f : Nat → Int) (h2 : Nat) (hb2 : Nat) (L2 : Int) (hd2 : Int) (hn2 : Int) (ov2 : Int) (ts2 : Int) (tb2 : Int) (f2 : Nat → Int) (hf : ∀ k, -128 ≤ f2 k ∧ f2 k < 128) : Met l y_Row_copyFrom (.code y_Row_copyFrom b_Row_copyFrom 2 none :: zT) rm_Row_copyFrom (zPc D classes (TY cI cB cZ) [(h, .inr (0, [.ref hb, .int (iZ L), .int (iZ hd), .int (iZ hn), .int (iZ ov), .int (iZ ts), .int (iZ tb)])), (hb, .inl (cB, 6000, .inl (zA f))), (h2, .inr (0, [.ref hb2, .int (iZ L2), .int (iZ hd2), .int (iZ hn2), .int (iZ ov2), .int (iZ ts2), .int (iZ tb2)])), (hb2, .inl (cB, 6000, .inl (zA f2)))] sz [.ref h, .ref h2]) (zFv (S := Unit) D classes (fun _u => True) (fun _u => [(h, .inr (0, [.ref hb, .int (iZ L2), .int (iZ 0), .int (iZ 0), .int (iZ 0), .int (iZ ts), .int (iZ tb)])), (hb, .inl (cB, 6000, .inl (zA (fun k => if k < 6000 then f2 k else f k)))), (h2, .inr (0, [.ref hb2, .int (iZ L2), .int (iZ hd2), .int (iZ hn2), .int (iZ ov2), .int (iZ ts2), .int (iZ tb2)])), (hb2, .inl (cB, 6000, .inl (zA f2)))]) (va_A [(h, .inr (0, [.ref hb, .int (iZ L), .int (iZ hd), .int (iZ hn), .int (iZ ov), .int (iZ ts), .int (iZ tb)])), (hb, .inl (cB, 6000, .inl (zA f))), (h2, .inr (0, [.ref hb2, .int (iZ L2), .int (iZ hd2), .int (iZ hn2), .int (iZ ov2), .int (iZ ts2), .int (iZ tb2)])), (hb2, .inl (cB, 6000, .inl (zA f2)))] sz)) 0 0 (va_A [(h, .inr (0, [.ref hb, .int (iZ L), .int (iZ hd), .int (iZ hn), .int (iZ ov), .int (iZ ts), .int (iZ tb)])), (hb, .inl (cB, 6000, .inl (zA f))), (h2, .inr (0, [.ref hb2, .int (iZ L2), .int (iZ hd2), .int (iZ hn2), .int (iZ ov2), .int (iZ ts2), .int (iZ tb2)])), (hb2, .inl (cB, 6000, .inl (zA f2)))] sz) := by
  refine z_ofv (by decide) (Nat.le_of_ble_eq_true rfl) rfl ?_
  intro p e s m args below meth c A Q E jmn jA jK jret H locs jP jD jS ls jl
  obtain ⟨jx, jb, jrt, jml, jown, jts, jlk⟩ := E
  have jown : s.vm.findClass R_Row = some m.cls := jown
  have jl : lv_has ls 2 [(0, .ref h), (1, .ref h2)] := jl
  refine lv_aload_n jx jb d_Row_copyFrom_0 rfl (lv_at jl 0 rfl) ?_
  refine z_backv (wr := [(hb, .inl (cB, 6000, .inl (zA f))), (h2, .inr (0, [.ref hb2, .int (iZ L2), .int (iZ hd2), .int (iZ hn2), .int (iZ ov2), .int (iZ ts2), .int (iZ tb2)])), (hb2, .inl (cB, 6000, .inl (zA f2)))]) jP jD jS jA [0] [1, 2, 3] rfl rfl (by decide) (by decide) (va_runV (As := []) (rest := []) ⟨jx, jb, jml, jown, jts⟩ (c_Row_empty l D cI cB cZ H.size h hb L hd hn ov ts tb) (zc_V 0 jts cd_Row_empty lk_Row_29 im_Row_empty se_Row_empty in_Row hd_Row_empty ⟨Nat.le_of_ble_eq_true rfl, Nat.le_of_ble_eq_true rfl⟩ rfl rfl) (z_preV jK jP jD [0] (by decide) rfl rfl rfl rfl) rfl rfl jl.1 rfl (lv_room (Nat.le_of_ble_eq_true rfl)) d_Row_copyFrom_1 ⟨Nat.le_of_ble_eq_true rfl, Nat.le_of_ble_eq_true rfl⟩) (fun u1 H locs hu1 jP jD jS => ?_)
  have jP : va_P D classes [(h, .inr (0, [.ref hb, .int (iZ 0), .int (iZ 0), .int (iZ 0), .int (iZ 0), .int (iZ ts), .int (iZ tb)])), (hb, .inl (cB, 6000, .inl (zA f))), (h2, .inr (0, [.ref hb2, .int (iZ L2), .int (iZ hd2), .int (iZ hn2), .int (iZ ov2), .int (iZ ts2), .int (iZ tb2)])), (hb2, .inl (cB, 6000, .inl (zA f2)))] H := jP.sub [3, 0, 1, 2] rfl
  have jD : va_D A [(h, .inr (0, [.ref hb, .int (iZ 0), .int (iZ 0), .int (iZ 0), .int (iZ 0), .int (iZ ts), .int (iZ tb)])), (hb, .inl (cB, 6000, .inl (zA f))), (h2, .inr (0, [.ref hb2, .int (iZ L2), .int (iZ hd2), .int (iZ hn2), .int (iZ ov2), .int (iZ ts2), .int (iZ tb2)])), (hb2, .inl (cB, 6000, .inl (zA f2)))] := jD.sub [3, 0, 1, 2] (by decide) rfl
  refine lv_aload_n jx jb d_Row_copyFrom_4 rfl (lv_at jl 1 rfl) ?_
  refine va_get (D := D) (ci := 0) (v := .ref hb2) (C := R_Row) (T := F_Row) (N := 7) jx jb jts i_Row jown jK.1 jP 2 rfl rfl 0 (by decide) (jts _ fl_Row_9) (fun _ h9 => h9) rfl d_Row_copyFrom_5 ?_
  refine lv_iconst (v := iZ 0) jx jb d_Row_copyFrom_8 rfl ?_
  refine lv_aload_n jx jb d_Row_copyFrom_9 rfl (lv_at jl 0 rfl) ?_
  refine va_get (D := D) (ci := 0) (v := .ref hb) (C := R_Row) (T := F_Row) (N := 7) jx jb jts i_Row jown jK.1 jP 0 rfl rfl 0 (by decide) (jts _ fl_Row_9) (fun _ h9 => h9) rfl d_Row_copyFrom_10 ?_
  refine lv_iconst (v := iZ 0) jx jb d_Row_copyFrom_13 rfl ?_
  refine lv_sipush (v := iZ 6000) jx jb d_Row_copyFrom_14 (by decide) ?_
  refine z_copyB jx jb (jml.trans jl.1.symm) jown (jts _ lk_Row_32) (jts _ nt_arraycopy) (jts _ st_arraycopy) (jts _ in_System) jK.1 jP jD jS 3 1 1 rfl rfl rfl (hf) (Nat.le_of_ble_eq_true rfl) (by decide) d_Row_copyFrom_17 (fun H locs jP jD jS => ?_)
  have jP : va_P D classes [(h, .inr (0, [.ref hb, .int (iZ 0), .int (iZ 0), .int (iZ 0), .int (iZ 0), .int (iZ ts), .int (iZ tb)])), (hb, .inl (cB, 6000, .inl (zA (fun k => if k < 6000 then f2 k else f k)))), (h2, .inr (0, [.ref hb2, .int (iZ L2), .int (iZ hd2), .int (iZ hn2), .int (iZ ov2), .int (iZ ts2), .int (iZ tb2)])), (hb2, .inl (cB, 6000, .inl (zA f2)))] H := jP
  have jD : va_D A [(h, .inr (0, [.ref hb, .int (iZ 0), .int (iZ 0), .int (iZ 0), .int (iZ 0), .int (iZ ts), .int (iZ tb)])), (hb, .inl (cB, 6000, .inl (zA (fun k => if k < 6000 then f2 k else f k)))), (h2, .inr (0, [.ref hb2, .int (iZ L2), .int (iZ hd2), .int (iZ hn2), .int (iZ ov2), .int (iZ ts2), .int (iZ tb2)])), (hb2, .inl (cB, 6000, .inl (zA f2)))] := jD
  refine lv_aload_n jx jb d_Row_copyFrom_20 rfl (lv_at jl 0 rfl) ?_
  refine lv_aload_n jx jb d_Row_copyFrom_21 rfl (lv_at jl 1 rfl) ?_
  refine va_get (D := D) (ci := 0) (v := .int (iZ L2)) (C := R_Row) (T := F_Row) (N := 7) jx jb jts i_Row jown jK.1 jP 2 rfl rfl 1 (by decide) (jts _ fl_Row_15) (fun _ h9 => h9) rfl d_Row_copyFrom_22 ?_
  refine va_put (D := D) (ci := 0) (v := .int (iZ L2)) (ty := .int) (C := R_Row) (T := F_Row) (N := 7) jx jb jts i_Row t_Row t_Row_ok n_Row jown jK.1 jP jD jS 0 rfl rfl 1 (by decide) (jts _ fl_Row_15) (fun _ h9 => h9) rfl (by decide +kernel) rfl rfl (Nat.le_of_ble_eq_true rfl) d_Row_copyFrom_25 (fun H locs jP jD jS => ?_)
  have jP : va_P D classes [(h, .inr (0, [.ref hb, .int (iZ L2), .int (iZ 0), .int (iZ 0), .int (iZ 0), .int (iZ ts), .int (iZ tb)])), (hb, .inl (cB, 6000, .inl (zA (fun k => if k < 6000 then f2 k else f k)))), (h2, .inr (0, [.ref hb2, .int (iZ L2), .int (iZ hd2), .int (iZ hn2), .int (iZ ov2), .int (iZ ts2), .int (iZ tb2)])), (hb2, .inl (cB, 6000, .inl (zA f2)))] H := jP
  have jD : va_D A [(h, .inr (0, [.ref hb, .int (iZ L2), .int (iZ 0), .int (iZ 0), .int (iZ 0), .int (iZ ts), .int (iZ tb)])), (hb, .inl (cB, 6000, .inl (zA (fun k => if k < 6000 then f2 k else f k)))), (h2, .inr (0, [.ref hb2, .int (iZ L2), .int (iZ hd2), .int (iZ hn2), .int (iZ ov2), .int (iZ ts2), .int (iZ tb2)])), (hb2, .inl (cB, 6000, .inl (zA f2)))] := jD
  exact jret _ _ () _ _ (trivial) (jP.sub [0, 1, 2, 3] rfl) (jD.sub [0, 1, 2, 3] (by decide) rfl) jS d_Row_copyFrom_28
abbrev rm_Row_init : Room := { frames := 1, cells := 1, slots := 6000, locals := 24 }
set_option maxHeartbeats 4000000 in
set_option maxRecDepth 100000 in
theorem c_Row_init (l : Launch) (D : va_G) (cI cB cZ : ClassId) (sz : Nat) (h : Nat) : Met l y_Row_init (.code y_Row_init b_Row_init 1 none :: zT) rm_Row_init (zPc D classes (TY cI cB cZ) [(h, .inr (0, [.null, .int (iZ 0), .int (iZ 0), .int (iZ 0), .int (iZ 0), .int (iZ 0), .int (iZ 0)]))] sz [.ref h]) (zFv (S := Nat) D classes (fun u => True) (fun u => [(h, .inr (0, [.ref u, .int (iZ 0), .int (iZ 0), .int (iZ 0), .int (iZ 0), .int (iZ 0), .int (iZ 0)])), (u, .inl (cB, 6000, .inl (zA (fun _ => 0))))]) (va_A [(h, .inr (0, [.null, .int (iZ 0), .int (iZ 0), .int (iZ 0), .int (iZ 0), .int (iZ 0), .int (iZ 0)]))] sz)) 1 6000 (va_A [(h, .inr (0, [.null, .int (iZ 0), .int (iZ 0), .int (iZ 0), .int (iZ 0), .int (iZ 0), .int (iZ 0)]))] sz) := by
  refine z_ofv (by decide) (Nat.le_of_ble_eq_true rfl) rfl ?_
  intro p e s m args below meth c A Q E jmn jA jK jret H locs jP jD jS ls jl
  obtain ⟨jx, jb, jrt, jml, jown, jts, jlk⟩ := E
  have jown : s.vm.findClass R_Row = some m.cls := jown
  have jl : lv_has ls 1 [(0, .ref h)] := jl
  refine lv_aload_n jx jb d_Row_init_0 rfl (lv_at jl 0 rfl) ?_
  refine W.objInit jx jb jown (jts _ lk_Row_3) (jts _ im_objectInit) (jts _ cd_objectInit) rfl (by rw [jml]; exact jl.1) rfl d_Row_init_1 (Nat.le_of_ble_eq_true rfl) (Nat.le_of_ble_eq_true rfl) ?_
  refine W.eq (g2 := F0 m 4 ls []) rfl ?_
  refine lv_aload_n jx jb d_Row_init_4 rfl (lv_at jl 0 rfl) ?_
  refine lv_sipush (v := iZ 6000) jx jb d_Row_init_5 (by decide) ?_
  refine z_newa jx jb (jts _ ac_byte) rfl rfl rfl jK.1 jP jD jS jA 1 rfl 6000 ⟨rfl, by decide⟩ (Nat.le_of_ble_eq_true rfl) (Nat.le_of_ble_eq_true rfl) d_Row_init_8 (fun w1 H jP jD jS => ?_)
  have jP : va_P D classes [(h, .inr (0, [.null, .int (iZ 0), .int (iZ 0), .int (iZ 0), .int (iZ 0), .int (iZ 0), .int (iZ 0)])), (w1, .inl (cB, 6000, .inl (zA (fun _ => 0))))] H := jP
  have jD : va_D A [(h, .inr (0, [.null, .int (iZ 0), .int (iZ 0), .int (iZ 0), .int (iZ 0), .int (iZ 0), .int (iZ 0)])), (w1, .inl (cB, 6000, .inl (zA (fun _ => 0))))] := jD
  refine va_putF (D := D) (ci := 0) (v := .ref w1) (ty := (.array .byte)) (C := R_Row) (T := F_Row) (N := 7) jx jb jts i_Row t_Row t_Row_ok n_Row jown jK.1 jP jD jS 0 rfl rfl 0 (by decide) (jts _ fl_Row_9) (fun _ h9 => h9) rfl jmn rfl (by decide +kernel) rfl rfl (Nat.le_of_ble_eq_true rfl) d_Row_init_10 (fun H locs jP jD jS => ?_)
  have jP : va_P D classes [(h, .inr (0, [.ref w1, .int (iZ 0), .int (iZ 0), .int (iZ 0), .int (iZ 0), .int (iZ 0), .int (iZ 0)])), (w1, .inl (cB, 6000, .inl (zA (fun _ => 0))))] H := jP
  have jD : va_D A [(h, .inr (0, [.ref w1, .int (iZ 0), .int (iZ 0), .int (iZ 0), .int (iZ 0), .int (iZ 0), .int (iZ 0)])), (w1, .inl (cB, 6000, .inl (zA (fun _ => 0))))] := jD
  exact jret _ _ (w1) _ _ (trivial) (jP.sub [0, 1] rfl) (jD.sub [0, 1] (by decide) rfl) jS d_Row_init_13
