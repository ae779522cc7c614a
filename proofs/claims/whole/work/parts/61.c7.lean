theorem lk_ShareReader_19 : Cond.methodLink R_ShareReader 19 y_Arrays_fill ∈ zT := zT_of (List.mem_of_getElem? (i := 375) (by decide +kernel)) rfl
theorem cd_ShareReader_takeNumber : Cond.code y_ShareReader_takeNumber b_ShareReader_takeNumber 5 (some .int) ∈ zT := zT_of (List.mem_of_getElem? (i := 378) (by decide +kernel)) rfl
theorem in_ShareReader : Cond.initialized R_ShareReader ∈ zT := zT_of (List.mem_of_getElem? (i := 44) (by decide +kernel)) rfl
theorem hd_ShareReader_takeNumber : y_ShareReader_takeNumber.cls ≠ "java/lang/invoke/MethodHandle" ∧ y_ShareReader_takeNumber.cls ≠ "java/lang/invoke/VarHandle" ∧ (parseMethodDescriptor y_ShareReader_takeNumber.desc).map (fun d => d.parameters.length) = some 2 := by decide +kernel
theorem lk_ShareReader_25 : Cond.methodLink R_ShareReader 25 y_ShareReader_takeNumber ∈ zT := zT_of (List.mem_of_getElem? (i := 376) (by decide +kernel)) rfl
theorem st_ShareReader_takeNumber : Cond.static y_ShareReader_takeNumber ∈ zT := zT_of (List.mem_of_getElem? (i := 377) (by decide +kernel)) rfl
theorem ln_ShareReader_31 : Cond.methodLinkNest R_ShareReader 31 y_SC_weight R_SC ∈ lw_tbl := List.mem_of_getElem? (i := 383) (by decide +kernel)
theorem cd_ShareReader_behindZeros : Cond.code y_ShareReader_behindZeros b_ShareReader_behindZeros 5 (some .int) ∈ zT := zT_of (List.mem_of_getElem? (i := 386) (by decide +kernel)) rfl
theorem hd_ShareReader_behindZeros : y_ShareReader_behindZeros.cls ≠ "java/lang/invoke/MethodHandle" ∧ y_ShareReader_behindZeros.cls ≠ "java/lang/invoke/VarHandle" ∧ (parseMethodDescriptor y_ShareReader_behindZeros.desc).map (fun d => d.parameters.length) = some 3 := by decide +kernel
theorem lk_ShareReader_34 : Cond.methodLink R_ShareReader 34 y_ShareReader_behindZeros ∈ zT := zT_of (List.mem_of_getElem? (i := 384) (by decide +kernel)) rfl
theorem st_ShareReader_behindZeros : Cond.static y_ShareReader_behindZeros ∈ zT := zT_of (List.mem_of_getElem? (i := 385) (by decide +kernel)) rfl
theorem cd_Row_startTaking : Cond.code y_Row_startTaking b_Row_startTaking 2 none ∈ zT := zT_of (List.mem_of_getElem? (i := 354) (by decide +kernel)) rfl
theorem hd_Row_startTaking : y_Row_startTaking.cls ≠ "java/lang/invoke/MethodHandle" ∧ y_Row_startTaking.cls ≠ "java/lang/invoke/VarHandle" ∧ (parseMethodDescriptor y_Row_startTaking.desc).map (fun d => d.parameters.length) = some 1 := by decide +kernel
theorem lk_SC_101 : Cond.methodLink R_SC 101 y_Row_startTaking ∈ zT := zT_of (List.mem_of_getElem? (i := 351) (by decide +kernel)) rfl
theorem im_Row_startTaking : Cond.instanceMethod y_Row_startTaking ∈ zT := zT_of (List.mem_of_getElem? (i := 352) (by decide +kernel)) rfl
theorem se_Row_startTaking : Cond.selects R_Row y_Row_startTaking y_Row_startTaking ∈ zT := zT_of (List.mem_of_getElem? (i := 353) (by decide +kernel)) rfl
theorem cd_ShareReader_takeShare : Cond.code y_ShareReader_takeShare b_ShareReader_takeShare 9 (some .int) ∈ zT := zT_of (List.mem_of_getElem? (i := 357) (by decide +kernel)) rfl
theorem hd_ShareReader_takeShare : y_ShareReader_takeShare.cls ≠ "java/lang/invoke/MethodHandle" ∧ y_ShareReader_takeShare.cls ≠ "java/lang/invoke/VarHandle" ∧ (parseMethodDescriptor y_ShareReader_takeShare.desc).map (fun d => d.parameters.length) = some 4 := by decide +kernel
theorem lk_SC_104 : Cond.methodLink R_SC 104 y_ShareReader_takeShare ∈ zT := zT_of (List.mem_of_getElem? (i := 355) (by decide +kernel)) rfl
theorem st_ShareReader_takeShare : Cond.static y_ShareReader_takeShare ∈ zT := zT_of (List.mem_of_getElem? (i := 356) (by decide +kernel)) rfl
theorem cd_Row_bytesTaken : Cond.code y_Row_bytesTaken b_Row_bytesTaken 1 (some .int) ∈ zT := zT_of (List.mem_of_getElem? (i := 390) (by decide +kernel)) rfl
theorem hd_Row_bytesTaken : y_Row_bytesTaken.cls ≠ "java/lang/invoke/MethodHandle" ∧ y_Row_bytesTaken.cls ≠ "java/lang/invoke/VarHandle" ∧ (parseMethodDescriptor y_Row_bytesTaken.desc).map (fun d => d.parameters.length) = some 0 := by decide +kernel
theorem lk_SC_110 : Cond.methodLink R_SC 110 y_Row_bytesTaken ∈ zT := zT_of (List.mem_of_getElem? (i := 387) (by decide +kernel)) rfl
theorem im_Row_bytesTaken : Cond.instanceMethod y_Row_bytesTaken ∈ zT := zT_of (List.mem_of_getElem? (i := 388) (by decide +kernel)) rfl
theorem se_Row_bytesTaken : Cond.selects R_Row y_Row_bytesTaken y_Row_bytesTaken ∈ zT := zT_of (List.mem_of_getElem? (i := 389) (by decide +kernel)) rfl
theorem d_ShareReader_takeShare_0 : decode b_ShareReader_takeShare 0 = .ok (.aload_n 0, 1) := by decide +kernel
theorem d_ShareReader_takeShare_1 : decode b_ShareReader_takeShare 1 = .ok (.iconst 4, 1) := by decide +kernel
theorem d_ShareReader_takeShare_2 : decode b_ShareReader_takeShare 2 = .ok (.invokevirtual 9, 3) := by decide +kernel
theorem d_ShareReader_takeShare_5 : decode b_ShareReader_takeShare 5 = .ok (.ifCond .ne 6, 3) := by decide +kernel
theorem d_ShareReader_takeShare_8 : decode b_ShareReader_takeShare 8 = .ok (.bipush (-3), 2) := by decide +kernel
theorem d_ShareReader_takeShare_10 : decode b_ShareReader_takeShare 10 = .ok (.ireturn, 1) := by decide +kernel
theorem d_ShareReader_takeShare_11 : decode b_ShareReader_takeShare 11 = .ok (.iconst 5, 1) := by decide +kernel
theorem d_ShareReader_takeShare_12 : decode b_ShareReader_takeShare 12 = .ok (.aload_n 0, 1) := by decide +kernel
theorem d_ShareReader_takeShare_13 : decode b_ShareReader_takeShare 13 = .ok (.iconst 4, 1) := by decide +kernel
theorem d_ShareReader_takeShare_14 : decode b_ShareReader_takeShare 14 = .ok (.invokevirtual 15, 3) := by decide +kernel
theorem d_ShareReader_takeShare_17 : decode b_ShareReader_takeShare 17 = .ok (.iadd, 1) := by decide +kernel
theorem d_ShareReader_takeShare_18 : decode b_ShareReader_takeShare 18 = .ok (.istore 4, 2) := by decide +kernel
theorem d_ShareReader_takeShare_20 : decode b_ShareReader_takeShare 20 = .ok (.iload 4, 2) := by decide +kernel
theorem d_ShareReader_takeShare_22 : decode b_ShareReader_takeShare 22 = .ok (.iload_n 1, 1) := by decide +kernel
theorem d_ShareReader_takeShare_23 : decode b_ShareReader_takeShare 23 = .ok (.if_icmp .le 5, 3) := by decide +kernel
theorem d_ShareReader_takeShare_26 : decode b_ShareReader_takeShare 26 = .ok (.iconst (-1), 1) := by decide +kernel
theorem d_ShareReader_takeShare_27 : decode b_ShareReader_takeShare 27 = .ok (.ireturn, 1) := by decide +kernel
theorem d_ShareReader_takeShare_28 : decode b_ShareReader_takeShare 28 = .ok (.aload_n 3, 1) := by decide +kernel
theorem d_ShareReader_takeShare_29 : decode b_ShareReader_takeShare 29 = .ok (.iconst 0, 1) := by decide +kernel
theorem d_ShareReader_takeShare_30 : decode b_ShareReader_takeShare 30 = .ok (.invokestatic 19, 3) := by decide +kernel
theorem d_ShareReader_takeShare_33 : decode b_ShareReader_takeShare 33 = .ok (.iconst 1, 1) := by decide +kernel
theorem d_ShareReader_takeShare_34 : decode b_ShareReader_takeShare 34 = .ok (.iload 4, 2) := by decide +kernel
theorem d_ShareReader_takeShare_36 : decode b_ShareReader_takeShare 36 = .ok (.ishl, 1) := by decide +kernel
theorem d_ShareReader_takeShare_37 : decode b_ShareReader_takeShare 37 = .ok (.istore 5, 2) := by decide +kernel
theorem d_ShareReader_takeShare_39 : decode b_ShareReader_takeShare 39 = .ok (.iconst 0, 1) := by decide +kernel
theorem d_ShareReader_takeShare_40 : decode b_ShareReader_takeShare 40 = .ok (.istore 6, 2) := by decide +kernel
theorem d_ShareReader_takeShare_42 : decode b_ShareReader_takeShare 42 = .ok (.iconst 0, 1) := by decide +kernel
theorem d_ShareReader_takeShare_43 : decode b_ShareReader_takeShare 43 = .ok (.istore 7, 2) := by decide +kernel
theorem d_ShareReader_takeShare_45 : decode b_ShareReader_takeShare 45 = .ok (.iload 7, 2) := by decide +kernel
theorem d_ShareReader_takeShare_47 : decode b_ShareReader_takeShare 47 = .ok (.iload_n 2, 1) := by decide +kernel
theorem d_ShareReader_takeShare_48 : decode b_ShareReader_takeShare 48 = .ok (.if_icmp .gt 96, 3) := by decide +kernel
theorem d_ShareReader_takeShare_51 : decode b_ShareReader_takeShare 51 = .ok (.iload 7, 2) := by decide +kernel
theorem d_ShareReader_takeShare_53 : decode b_ShareReader_takeShare 53 = .ok (.aload_n 3, 1) := by decide +kernel
theorem d_ShareReader_takeShare_54 : decode b_ShareReader_takeShare 54 = .ok (.arraylength, 1) := by decide +kernel
theorem d_ShareReader_takeShare_55 : decode b_ShareReader_takeShare 55 = .ok (.if_icmp .ge 89, 3) := by decide +kernel
theorem d_ShareReader_takeShare_58 : decode b_ShareReader_takeShare 58 = .ok (.iload 6, 2) := by decide +kernel
theorem d_ShareReader_takeShare_60 : decode b_ShareReader_takeShare 60 = .ok (.ifCond .lt 84, 3) := by decide +kernel
theorem d_ShareReader_takeShare_63 : decode b_ShareReader_takeShare 63 = .ok (.iload 7, 2) := by decide +kernel
theorem d_ShareReader_takeShare_65 : decode b_ShareReader_takeShare 65 = .ok (.iload 6, 2) := by decide +kernel
theorem d_ShareReader_takeShare_67 : decode b_ShareReader_takeShare 67 = .ok (.if_icmp .ne 71, 3) := by decide +kernel
theorem d_ShareReader_takeShare_70 : decode b_ShareReader_takeShare 70 = .ok (.aload_n 0, 1) := by decide +kernel
theorem d_ShareReader_takeShare_71 : decode b_ShareReader_takeShare 71 = .ok (.iload 5, 2) := by decide +kernel
theorem d_ShareReader_takeShare_73 : decode b_ShareReader_takeShare 73 = .ok (.invokestatic 25, 3) := by decide +kernel
theorem d_ShareReader_takeShare_76 : decode b_ShareReader_takeShare 76 = .ok (.istore 8, 2) := by decide +kernel
theorem d_ShareReader_takeShare_78 : decode b_ShareReader_takeShare 78 = .ok (.iload 8, 2) := by decide +kernel
theorem d_ShareReader_takeShare_80 : decode b_ShareReader_takeShare 80 = .ok (.ifCond .ge 6, 3) := by decide +kernel
theorem d_ShareReader_takeShare_83 : decode b_ShareReader_takeShare 83 = .ok (.bipush (-3), 2) := by decide +kernel
theorem d_ShareReader_takeShare_85 : decode b_ShareReader_takeShare 85 = .ok (.ireturn, 1) := by decide +kernel
theorem d_ShareReader_takeShare_86 : decode b_ShareReader_takeShare 86 = .ok (.aload_n 3, 1) := by decide +kernel
theorem d_ShareReader_takeShare_87 : decode b_ShareReader_takeShare 87 = .ok (.iload 7, 2) := by decide +kernel
theorem d_ShareReader_takeShare_89 : decode b_ShareReader_takeShare 89 = .ok (.iload 8, 2) := by decide +kernel
theorem d_ShareReader_takeShare_91 : decode b_ShareReader_takeShare 91 = .ok (.iconst 1, 1) := by decide +kernel
theorem d_ShareReader_takeShare_92 : decode b_ShareReader_takeShare 92 = .ok (.isub, 1) := by decide +kernel
theorem d_ShareReader_takeShare_93 : decode b_ShareReader_takeShare 93 = .ok (.iastore, 1) := by decide +kernel
theorem d_ShareReader_takeShare_94 : decode b_ShareReader_takeShare 94 = .ok (.iload 5, 2) := by decide +kernel
theorem d_ShareReader_takeShare_96 : decode b_ShareReader_takeShare 96 = .ok (.iload 8, 2) := by decide +kernel
theorem d_ShareReader_takeShare_98 : decode b_ShareReader_takeShare 98 = .ok (.iconst 1, 1) := by decide +kernel
theorem d_ShareReader_takeShare_99 : decode b_ShareReader_takeShare 99 = .ok (.isub, 1) := by decide +kernel
theorem d_ShareReader_takeShare_100 : decode b_ShareReader_takeShare 100 = .ok (.invokestatic 31, 3) := by decide +kernel
theorem d_ShareReader_takeShare_103 : decode b_ShareReader_takeShare 103 = .ok (.isub, 1) := by decide +kernel
theorem d_ShareReader_takeShare_104 : decode b_ShareReader_takeShare 104 = .ok (.istore 5, 2) := by decide +kernel
theorem d_ShareReader_takeShare_106 : decode b_ShareReader_takeShare 106 = .ok (.iload 5, 2) := by decide +kernel
theorem d_ShareReader_takeShare_108 : decode b_ShareReader_takeShare 108 = .ok (.ifCond .gt 6, 3) := by decide +kernel
theorem d_ShareReader_takeShare_111 : decode b_ShareReader_takeShare 111 = .ok (.iload 4, 2) := by decide +kernel
theorem d_ShareReader_takeShare_113 : decode b_ShareReader_takeShare 113 = .ok (.ireturn, 1) := by decide +kernel
theorem d_ShareReader_takeShare_114 : decode b_ShareReader_takeShare 114 = .ok (.iload 8, 2) := by decide +kernel
theorem d_ShareReader_takeShare_116 : decode b_ShareReader_takeShare 116 = .ok (.iconst 1, 1) := by decide +kernel
theorem d_ShareReader_takeShare_117 : decode b_ShareReader_takeShare 117 = .ok (.if_icmp .ne 15, 3) := by decide +kernel
theorem d_ShareReader_takeShare_120 : decode b_ShareReader_takeShare 120 = .ok (.aload_n 0, 1) := by decide +kernel
theorem d_ShareReader_takeShare_121 : decode b_ShareReader_takeShare 121 = .ok (.iload 7, 2) := by decide +kernel
theorem d_ShareReader_takeShare_123 : decode b_ShareReader_takeShare 123 = .ok (.iconst 1, 1) := by decide +kernel
theorem d_ShareReader_takeShare_124 : decode b_ShareReader_takeShare 124 = .ok (.iadd, 1) := by decide +kernel
theorem d_ShareReader_takeShare_125 : decode b_ShareReader_takeShare 125 = .ok (.iload_n 2, 1) := by decide +kernel
theorem d_ShareReader_takeShare_126 : decode b_ShareReader_takeShare 126 = .ok (.invokestatic 34, 3) := by decide +kernel
theorem d_ShareReader_takeShare_129 : decode b_ShareReader_takeShare 129 = .ok (.goto 7, 3) := by decide +kernel
theorem d_ShareReader_takeShare_132 : decode b_ShareReader_takeShare 132 = .ok (.iload 7, 2) := by decide +kernel
theorem d_ShareReader_takeShare_134 : decode b_ShareReader_takeShare 134 = .ok (.iconst 1, 1) := by decide +kernel
theorem d_ShareReader_takeShare_135 : decode b_ShareReader_takeShare 135 = .ok (.iadd, 1) := by decide +kernel
theorem d_ShareReader_takeShare_136 : decode b_ShareReader_takeShare 136 = .ok (.istore 6, 2) := by decide +kernel
theorem d_ShareReader_takeShare_138 : decode b_ShareReader_takeShare 138 = .ok (.iinc 7 1, 3) := by decide +kernel
theorem d_ShareReader_takeShare_141 : decode b_ShareReader_takeShare 141 = .ok (.goto (-96), 3) := by decide +kernel
theorem d_ShareReader_takeShare_144 : decode b_ShareReader_takeShare 144 = .ok (.iload 6, 2) := by decide +kernel
theorem d_ShareReader_takeShare_146 : decode b_ShareReader_takeShare 146 = .ok (.ifCond .ge 8, 3) := by decide +kernel
theorem d_ShareReader_takeShare_149 : decode b_ShareReader_takeShare 149 = .ok (.bipush (-3), 2) := by decide +kernel
theorem d_ShareReader_takeShare_151 : decode b_ShareReader_takeShare 151 = .ok (.goto 5, 3) := by decide +kernel
theorem d_ShareReader_takeShare_154 : decode b_ShareReader_takeShare 154 = .ok (.bipush (-2), 2) := by decide +kernel
theorem d_ShareReader_takeShare_156 : decode b_ShareReader_takeShare 156 = .ok (.ireturn, 1) := by decide +kernel
theorem d_SC_read_0 : decode b_SC_read 0 = .ok (.iload_n 1, 1) := by decide +kernel
theorem d_SC_read_1 : decode b_SC_read 1 = .ok (.invokestatic 77, 3) := by decide +kernel
theorem d_SC_read_4 : decode b_SC_read 4 = .ok (.ifCond .eq 10, 3) := by decide +kernel
theorem d_SC_read_7 : decode b_SC_read 7 = .ok (.iload_n 2, 1) := by decide +kernel
theorem d_SC_read_8 : decode b_SC_read 8 = .ok (.invokestatic 68, 3) := by decide +kernel
theorem d_SC_read_11 : decode b_SC_read 11 = .ok (.ifCond .ne 6, 3) := by decide +kernel
theorem d_SC_read_14 : decode b_SC_read 14 = .ok (.bipush (-4), 2) := by decide +kernel
theorem d_SC_read_16 : decode b_SC_read 16 = .ok (.ireturn, 1) := by decide +kernel
theorem d_SC_read_17 : decode b_SC_read 17 = .ok (.aload_n 0, 1) := by decide +kernel
theorem d_SC_read_18 : decode b_SC_read 18 = .ok (.getfield 19, 3) := by decide +kernel
theorem d_SC_read_21 : decode b_SC_read 21 = .ok (.aload_n 0, 1) := by decide +kernel
theorem d_SC_read_22 : decode b_SC_read 22 = .ok (.getfield 55, 3) := by decide +kernel
theorem d_SC_read_25 : decode b_SC_read 25 = .ok (.invokevirtual 101, 3) := by decide +kernel
theorem d_SC_read_28 : decode b_SC_read 28 = .ok (.aload_n 0, 1) := by decide +kernel
theorem d_SC_read_29 : decode b_SC_read 29 = .ok (.getfield 19, 3) := by decide +kernel
theorem d_SC_read_32 : decode b_SC_read 32 = .ok (.iload_n 1, 1) := by decide +kernel
theorem d_SC_read_33 : decode b_SC_read 33 = .ok (.iload_n 2, 1) := by decide +kernel
theorem d_SC_read_34 : decode b_SC_read 34 = .ok (.aload_n 0, 1) := by decide +kernel
theorem d_SC_read_35 : decode b_SC_read 35 = .ok (.getfield 13, 3) := by decide +kernel
theorem d_SC_read_38 : decode b_SC_read 38 = .ok (.invokestatic 104, 3) := by decide +kernel
theorem d_SC_read_41 : decode b_SC_read 41 = .ok (.istore_n 3, 1) := by decide +kernel
theorem d_SC_read_42 : decode b_SC_read 42 = .ok (.iload_n 3, 1) := by decide +kernel
theorem d_SC_read_43 : decode b_SC_read 43 = .ok (.ifCond .le 31, 3) := by decide +kernel
theorem d_SC_read_46 : decode b_SC_read 46 = .ok (.aload_n 0, 1) := by decide +kernel
theorem d_SC_read_47 : decode b_SC_read 47 = .ok (.getfield 26, 3) := by decide +kernel
theorem d_SC_read_50 : decode b_SC_read 50 = .ok (.iload_n 3, 1) := by decide +kernel
theorem d_SC_read_51 : decode b_SC_read 51 = .ok (.aload_n 0, 1) := by decide +kernel
theorem d_SC_read_52 : decode b_SC_read 52 = .ok (.getfield 13, 3) := by decide +kernel
theorem d_SC_read_55 : decode b_SC_read 55 = .ok (.invokevirtual 84, 3) := by decide +kernel
theorem d_SC_read_58 : decode b_SC_read 58 = .ok (.aload_n 0, 1) := by decide +kernel
theorem d_SC_read_59 : decode b_SC_read 59 = .ok (.dup, 1) := by decide +kernel
theorem d_SC_read_60 : decode b_SC_read 60 = .ok (.getfield 55, 3) := by decide +kernel
theorem d_SC_read_63 : decode b_SC_read 63 = .ok (.aload_n 0, 1) := by decide +kernel
theorem d_SC_read_64 : decode b_SC_read 64 = .ok (.getfield 19, 3) := by decide +kernel
theorem d_SC_read_67 : decode b_SC_read 67 = .ok (.invokevirtual 110, 3) := by decide +kernel
theorem d_SC_read_70 : decode b_SC_read 70 = .ok (.iadd, 1) := by decide +kernel
theorem d_SC_read_71 : decode b_SC_read 71 = .ok (.putfield 55, 3) := by decide +kernel
theorem d_SC_read_74 : decode b_SC_read 74 = .ok (.iload_n 3, 1) := by decide +kernel
theorem d_SC_read_75 : decode b_SC_read 75 = .ok (.ireturn, 1) := by decide +kernel
abbrev rm_SR_takeShare : Room := { frames := 5, cells := 0, slots := 0, locals := 113 }
set_option maxHeartbeats 4000000 in
set_option maxRecDepth 100000 in
theorem c_SR_takeShare (l : Launch) (D : va_G) (cI cB cZ : ClassId) (sz : Nat) (h : Nat) (hb : Nat) (L : Int) (hd : Int) (hn : Int) (ov : Int) (ts : Int) (f : Nat → Int) (q : Nat) (fp : Nat → Int) (x : Int) (y : Nat) (hT : 0 ≤ L ∧ L ≤ 6000 ∧ 0 ≤ ts ∧ ts ≤ L) (hx1 : 5 ≤ x ∧ x ≤ 12) (hy : y ≤ 255) : Met l y_ShareReader_takeShare (.code y_ShareReader_takeShare b_ShareReader_takeShare 9 (some .int) :: zT) rm_SR_takeShare (zPc D classes (TY cI cB cZ) [(h, .inr (0, [.ref hb, .int (iZ L), .int (iZ hd), .int (iZ hn), .int (iZ ov), .int (iZ ts), .int (iZ 0)])), (hb, .inl (cB, 6000, .inl (zA f))), (q, .inl (cI, 256, .inl (zA fp)))] sz [.ref h, .int (iZ x), .int (iZ (y : Int)), .ref q]) (zFi (S := Int × (Nat → Int)) D classes (fun z u => rdP (fun k => f k % 256) (8 * ts.toNat) (8 * (L - ts)) x y z u.1 u.2) (fun u => [(h, .inr (0, [.ref hb, .int (iZ L), .int (iZ hd), .int (iZ hn), .int (iZ ov), .int (iZ ts), .int (iZ u.1)])), (hb, .inl (cB, 6000, .inl (zA f))), (q, .inl (cI, 256, .inl (zA u.2)))]) (va_A [(h, .inr (0, [.ref hb, .int (iZ L), .int (iZ hd), .int (iZ hn), .int (iZ ov), .int (iZ ts), .int (iZ 0)])), (hb, .inl (cB, 6000, .inl (zA f))), (q, .inl (cI, 256, .inl (zA fp)))] sz)) 0 0 (va_A [(h, .inr (0, [.ref hb, .int (iZ L), .int (iZ hd), .int (iZ hn), .int (iZ ov), .int (iZ ts), .int (iZ 0)])), (hb, .inl (cB, 6000, .inl (zA f))), (q, .inl (cI, 256, .inl (zA fp)))] sz) := by
  refine z_ofi (by decide) (Nat.le_of_ble_eq_true rfl) (Or.inl rfl) ?_
  intro p e s m args below meth c A Q E jA jK jret H locs jP jD jS ls jl
  obtain ⟨jx, jb, jrt, jml, jown, jts, jlk⟩ := E
  have jown : s.vm.findClass R_ShareReader = some m.cls := jown
  have hnb4 := nbI_b (fun k => f k % 256) (8 * ts.toNat) 4
  have jl : lv_has ls 9 [(0, .ref h), (1, .int (iZ x)), (2, .int (iZ (y : Int))), (3, .ref q)] := jl
  refine lv_aload_n jx jb d_ShareReader_takeShare_0 rfl (lv_at jl 0 rfl) ?_
  refine lv_iconst (v := iZ 4) jx jb d_ShareReader_takeShare_1 rfl ?_
  refine z_backr (va_runV (As := [.int (iZ 4)]) (rest := []) ⟨jx, jb, jml, jown, jts⟩ (c_Row_hasBits l D cI cB cZ h hb L hd hn ov ts 0 4 (by omega)) (zc_V 1 jts cd_Row_hasBits lk_ShareReader_9 im_Row_hasBits se_Row_hasBits in_Row hd_Row_hasBits ⟨Nat.le_of_ble_eq_true rfl, Nat.le_of_ble_eq_true rfl⟩ rfl rfl) (z_preVR jK jP [0] rfl rfl rfl) rfl rfl jl.1 rfl (lv_room (Nat.le_of_ble_eq_true rfl)) d_ShareReader_takeShare_2 ⟨Nat.le_of_ble_eq_true rfl, Nat.le_of_ble_eq_true rfl⟩) (fun z2 hz2 => ?_)
  rcases hz2 with ⟨rfl, hq2⟩ | ⟨rfl, hq2⟩
  ·
    refine z_if_ne (tgt := 11) jx jb d_ShareReader_takeShare_5 (by decide) ⟨by decide, by decide⟩ (fun hc5 => ?_) (fun hc5 => ?_)
    ·
      refine lv_iconst (v := iZ 5) jx jb d_ShareReader_takeShare_11 rfl ?_
      refine lv_aload_n jx jb d_ShareReader_takeShare_12 rfl (lv_at jl 0 rfl) ?_
      refine lv_iconst (v := iZ 4) jx jb d_ShareReader_takeShare_13 rfl ?_
      refine z_backie (wr := [(q, .inl (cI, 256, .inl (zA fp)))]) jP jD jS jA [0, 1] [2] rfl rfl (by decide) (by decide) (va_runV (As := [.int (iZ 4)]) (rest := [.int (iZ 5)]) ⟨jx, jb, jml, jown, jts⟩ (c_Row_takeBits l D cI cB cZ H.size h hb L hd hn ov ts 0 f 4 (by omega) (by omega) (by decide)) (zc_V 1 jts cd_Row_takeBits lk_ShareReader_15 im_Row_takeBits se_Row_takeBits in_Row hd_Row_takeBits ⟨Nat.le_of_ble_eq_true rfl, Nat.le_of_ble_eq_true rfl⟩ rfl rfl) (z_preV jK jP jD [0, 1] (by decide) rfl rfl rfl rfl) rfl rfl jl.1 rfl (lv_room (Nat.le_of_ble_eq_true rfl)) d_ShareReader_takeShare_14 ⟨Nat.le_of_ble_eq_true rfl, Nat.le_of_ble_eq_true rfl⟩) (fun u14 H locs jP jD jS => ?_)
      have jP : va_P D classes [(h, .inr (0, [.ref hb, .int (iZ L), .int (iZ hd), .int (iZ hn), .int (iZ ov), .int (iZ ts), .int (iZ (0 + (4 : Int)))])), (hb, .inl (cB, 6000, .inl (zA f))), (q, .inl (cI, 256, .inl (zA fp)))] H := jP.sub [1, 2, 0] rfl
      have jD : va_D A [(h, .inr (0, [.ref hb, .int (iZ L), .int (iZ hd), .int (iZ hn), .int (iZ ov), .int (iZ ts), .int (iZ (0 + (4 : Int)))])), (hb, .inl (cB, 6000, .inl (zA f))), (q, .inl (cI, 256, .inl (zA fp)))] := jD.sub [1, 2, 0] (by decide) rfl
      have jP : va_P D classes [(h, .inr (0, [.ref hb, .int (iZ L), .int (iZ hd), .int (iZ hn), .int (iZ ov), .int (iZ ts), .int (iZ ((4 : Nat) : Int))])), (hb, .inl (cB, 6000, .inl (zA f))), (q, .inl (cI, 256, .inl (zA fp)))] H := jP
      have jD : va_D A [(h, .inr (0, [.ref hb, .int (iZ L), .int (iZ hd), .int (iZ hn), .int (iZ ov), .int (iZ ts), .int (iZ ((4 : Nat) : Int))])), (hb, .inl (cB, 6000, .inl (zA f))), (q, .inl (cI, 256, .inl (zA fp)))] := jD
      refine z_top (nbI (fun k => f k % 256) (8 * ts.toNat) 4) (rNum_nb (n := 4) (by omega) (by omega) (by omega)) ?_
      refine z_iadd jx jb d_ShareReader_takeShare_17 ?_
      refine lv_istore (lv' := [(4, .int (iZ (5 + (nbI (fun k => f k % 256) (8 * ts.toNat) 4)))), (0, .ref h), (1, .int (iZ x)), (2, .int (iZ (y : Int))), (3, .ref q)]) jx jb d_ShareReader_takeShare_18 jl (by decide) rfl (fun ls jl => ?_)
      refine lv_iload jx jb d_ShareReader_takeShare_20 (lv_at jl 0 rfl) ?_
      refine lv_iload_n jx jb d_ShareReader_takeShare_22 rfl (lv_at jl 2 rfl) ?_
      refine z_icmp_le (tgt := 28) jx jb d_ShareReader_takeShare_23 (by decide) ⟨⟨by omega, by omega⟩, ⟨by omega, by omega⟩⟩ (fun hc23 => ?_) (fun hc23 => ?_)
      ·
        refine lv_aload_n jx jb d_ShareReader_takeShare_28 rfl (lv_at jl 4 rfl) ?_
        refine lv_iconst (v := iZ 0) jx jb d_ShareReader_takeShare_29 rfl ?_
        refine z_backv (wr := [(h, .inr (0, [.ref hb, .int (iZ L), .int (iZ hd), .int (iZ hn), .int (iZ ov), .int (iZ ts), .int (iZ ((4 : Nat) : Int))])), (hb, .inl (cB, 6000, .inl (zA f)))]) jP jD jS jA [2] [0, 1] rfl rfl (by decide) (by decide) (va_runS (As := [.ref q, .int (iZ 0)]) (rest := []) ⟨jx, jb, jml, jown, jts⟩ (c_fill l D cI cB cZ H.size q fp 0 (by first | assumption | omega)) (zc_S 2 jts cd_Arrays_fill lk_ShareReader_19 st_Arrays_fill in_Arrays hd_Arrays_fill ⟨Nat.le_of_ble_eq_true rfl, Nat.le_of_ble_eq_true rfl⟩ rfl rfl) (z_preS jK jP jD [2] (by decide) rfl rfl) rfl rfl jl.1 rfl (lv_room (Nat.le_of_ble_eq_true rfl)) d_ShareReader_takeShare_30 ⟨Nat.le_of_ble_eq_true rfl, Nat.le_of_ble_eq_true rfl⟩) (fun u30 H locs hu30 jP jD jS => ?_)
        have jP : va_P D classes [(h, .inr (0, [.ref hb, .int (iZ L), .int (iZ hd), .int (iZ hn), .int (iZ ov), .int (iZ ts), .int (iZ ((4 : Nat) : Int))])), (hb, .inl (cB, 6000, .inl (zA f))), (q, .inl (cI, 256, .inl (zA (fun k => if k < 256 then 0 else fp k))))] H := jP.sub [0, 1, 2] rfl
        have jD : va_D A [(h, .inr (0, [.ref hb, .int (iZ L), .int (iZ hd), .int (iZ hn), .int (iZ ov), .int (iZ ts), .int (iZ ((4 : Nat) : Int))])), (hb, .inl (cB, 6000, .inl (zA f))), (q, .inl (cI, 256, .inl (zA (fun k => if k < 256 then 0 else fp k))))] := jD.sub [0, 1, 2] (by decide) rfl
        refine lv_iconst (v := iZ 1) jx jb d_ShareReader_takeShare_33 rfl ?_
        refine lv_iload jx jb d_ShareReader_takeShare_34 (lv_at jl 0 rfl) ?_
        have hp12 := p2_le (show (5 + nbI (fun k => f k % 256) (8 * ts.toNat) 4).toNat ≤ 12 by omega)
        have hp0 := p2_pos (5 + nbI (fun k => f k % 256) (8 * ts.toNat) 4).toNat
        refine z_ishl jx jb d_ShareReader_takeShare_36 ((5 + nbI (fun k => f k % 256) (8 * ts.toNat) 4).toNat) (2 ^ ((5 + nbI (fun k => f k % 256) (8 * ts.toNat) 4).toNat)) (rfl) (by omega) ?_
        refine z_top (2 ^ ((5 + nbI (fun k => f k % 256) (8 * ts.toNat) 4).toNat)) (Int.one_mul _) ?_
        refine lv_istore (lv' := [(5, .int (iZ (2 ^ ((5 + nbI (fun k => f k % 256) (8 * ts.toNat) 4).toNat)))), (4, .int (iZ (5 + (nbI (fun k => f k % 256) (8 * ts.toNat) 4)))), (0, .ref h), (1, .int (iZ x)), (2, .int (iZ (y : Int))), (3, .ref q)]) jx jb d_ShareReader_takeShare_37 jl (by decide) rfl (fun ls jl => ?_)
        refine lv_iconst (v := iZ 0) jx jb d_ShareReader_takeShare_39 rfl ?_
        refine lv_istore (lv' := [(6, .int (iZ 0)), (5, .int (iZ (2 ^ ((5 + nbI (fun k => f k % 256) (8 * ts.toNat) 4).toNat)))), (4, .int (iZ (5 + (nbI (fun k => f k % 256) (8 * ts.toNat) 4)))), (0, .ref h), (1, .int (iZ x)), (2, .int (iZ (y : Int))), (3, .ref q)]) jx jb d_ShareReader_takeShare_40 jl (by decide) rfl (fun ls jl => ?_)
        refine lv_iconst (v := iZ 0) jx jb d_ShareReader_takeShare_42 rfl ?_
        refine lv_istore (lv' := [(7, .int (iZ 0)), (6, .int (iZ 0)), (5, .int (iZ (2 ^ ((5 + nbI (fun k => f k % 256) (8 * ts.toNat) 4).toNat)))), (4, .int (iZ (5 + (nbI (fun k => f k % 256) (8 * ts.toNat) 4)))), (0, .ref h), (1, .int (iZ x)), (2, .int (iZ (y : Int))), (3, .ref q)]) jx jb d_ShareReader_takeShare_43 jl (by decide) rfl (fun ls jl => ?_)
        have hloop45 : ∀ (nF : Nat) (i : Nat) (v : Int) (t : Nat) (R2 : Int) (pt : Nat → Int) (f2 : Nat → Int), 300 - i < nF → (i ≤ 256) → (-1 ≤ v ∧ v < 2000) → (v = -1 ∨ (i : Int) ≤ v) → (1 ≤ R2 ∧ R2 ≤ 4096) → ((t : Int) ≤ (8 * (L - ts))) → (rdS (fun k => f k % 256) (8 * ts.toNat) (8 * (L - ts)) y (rdT (fun k => f k % 256) (8 * ts.toNat) (8 * (L - ts)) y) t v R2 pt) → (∀ k, k < 256 → f2 k = pt k) → ∀ (H : Heap) (locs : List Loc), va_P D classes [(h, .inr (0, [.ref hb, .int (iZ L), .int (iZ hd), .int (iZ hn), .int (iZ ov), .int (iZ ts), .int (iZ (t : Int))])), (hb, .inl (cB, 6000, .inl (zA f))), (q, .inl (cI, 256, .inl (zA f2)))] H → va_D A [(h, .inr (0, [.ref hb, .int (iZ L), .int (iZ hd), .int (iZ hn), .int (iZ ov), .int (iZ ts), .int (iZ (t : Int))])), (hb, .inl (cB, 6000, .inl (zA f))), (q, .inl (cI, 256, .inl (zA f2)))] → va_S A s.heap H locs → ∀ ls : Array Slot, lv_has ls 9 [(0, .ref h), (1, .int (iZ x)), (2, .int (iZ (y : Int))), (3, .ref q), (4, .int (iZ (5 + nbI (fun k => f k % 256) (8 * ts.toNat) 4))), (5, .int (iZ R2)), (6, .int (iZ v)), (7, .int (iZ (i : Int)))] → W p l e rm_SR_takeShare s m args below meth c H locs 0 0 Q (F0 m 45 ls []) := by
          intro nF
          induction nF with
          | zero => intro i v t R2 pt f2 hm; exact absurd hm (Nat.not_lt_zero _)
          | succ nF ih45 =>
            intro i v t R2 pt f2 hm hi hv hiv hR2 ht hS hf H locs jP jD jS ls jl
            refine lv_iload jx jb d_ShareReader_takeShare_45 (lv_at jl 7 rfl) ?_
            refine lv_iload_n jx jb d_ShareReader_takeShare_47 rfl (lv_at jl 2 rfl) ?_
            refine z_icmp_gt (tgt := 144) jx jb d_ShareReader_takeShare_48 (by decide) ⟨⟨by omega, by omega⟩, ⟨by omega, by omega⟩⟩ (fun hc48 => ?_) (fun hc48 => ?_)
            ·
              refine lv_iload jx jb d_ShareReader_takeShare_144 (lv_at jl 6 rfl) ?_
              refine z_if_ge (tgt := 154) jx jb d_ShareReader_takeShare_146 (by decide) ⟨by omega, by omega⟩ (fun hc146 => ?_) (fun hc146 => ?_)
              ·
                refine lv_bipush (v := iZ (-2)) jx jb d_ShareReader_takeShare_154 (by decide) ?_
                exact jret _ _ _ ((t : Int), f2) _ _ (Or.inl rfl) (by first | exact Or.inr (Or.inr ⟨by omega, by omega, Or.inr (Or.inr ⟨rdS_neg hS (by omega), rfl⟩)⟩) | exact Or.inr (Or.inr ⟨by omega, by omega, Or.inr (Or.inl ⟨rdS_big hS (by omega), rfl⟩)⟩)) (jP.sub [0, 1, 2] rfl) (jD.sub [0, 1, 2] (by decide) rfl) jS d_ShareReader_takeShare_156
              ·
                refine lv_bipush (v := iZ (-3)) jx jb d_ShareReader_takeShare_149 (by decide) ?_
                refine lv_goto (tgt := 156) jx jb d_ShareReader_takeShare_151 (by decide) ?_
                exact jret _ _ _ ((t : Int), f2) _ _ (Or.inl rfl) (by first | exact Or.inr (Or.inr ⟨by omega, by omega, Or.inr (Or.inr ⟨rdS_neg hS (by omega), rfl⟩)⟩) | exact Or.inr (Or.inr ⟨by omega, by omega, Or.inr (Or.inl ⟨rdS_big hS (by omega), rfl⟩)⟩)) (jP.sub [0, 1, 2] rfl) (jD.sub [0, 1, 2] (by decide) rfl) jS d_ShareReader_takeShare_156
            ·
              refine lv_iload jx jb d_ShareReader_takeShare_51 (lv_at jl 7 rfl) ?_
              refine lv_aload_n jx jb d_ShareReader_takeShare_53 rfl (lv_at jl 3 rfl) ?_
              refine va_alen (v := iZ 256) jx jb jK.1 jP 2 0 rfl rfl rfl d_ShareReader_takeShare_54 ?_
              refine z_icmp_ge (tgt := 144) jx jb d_ShareReader_takeShare_55 (by decide) ⟨⟨by omega, by omega⟩, ⟨by decide, by decide⟩⟩ (fun hc55 => ?_) (fun hc55 => ?_)
              ·
                exfalso; omega
              ·
                refine lv_iload jx jb d_ShareReader_takeShare_58 (lv_at jl 6 rfl) ?_
                refine z_if_lt (tgt := 144) jx jb d_ShareReader_takeShare_60 (by decide) ⟨by omega, by omega⟩ (fun hc60 => ?_) (fun hc60 => ?_)
                ·
                  refine lv_iload jx jb d_ShareReader_takeShare_144 (lv_at jl 6 rfl) ?_
                  refine z_if_ge (tgt := 154) jx jb d_ShareReader_takeShare_146 (by decide) ⟨by omega, by omega⟩ (fun hc146 => ?_) (fun hc146 => ?_)
                  ·
                    refine lv_bipush (v := iZ (-2)) jx jb d_ShareReader_takeShare_154 (by decide) ?_
                    exact jret _ _ _ ((t : Int), f2) _ _ (Or.inl rfl) (by first | exact Or.inr (Or.inr ⟨by omega, by omega, Or.inr (Or.inr ⟨rdS_neg hS (by omega), rfl⟩)⟩) | exact Or.inr (Or.inr ⟨by omega, by omega, Or.inr (Or.inl ⟨rdS_big hS (by omega), rfl⟩)⟩)) (jP.sub [0, 1, 2] rfl) (jD.sub [0, 1, 2] (by decide) rfl) jS d_ShareReader_takeShare_156
                  ·
                    refine lv_bipush (v := iZ (-3)) jx jb d_ShareReader_takeShare_149 (by decide) ?_
                    refine lv_goto (tgt := 156) jx jb d_ShareReader_takeShare_151 (by decide) ?_
                    exact jret _ _ _ ((t : Int), f2) _ _ (Or.inl rfl) (by first | exact Or.inr (Or.inr ⟨by omega, by omega, Or.inr (Or.inr ⟨rdS_neg hS (by omega), rfl⟩)⟩) | exact Or.inr (Or.inr ⟨by omega, by omega, Or.inr (Or.inl ⟨rdS_big hS (by omega), rfl⟩)⟩)) (jP.sub [0, 1, 2] rfl) (jD.sub [0, 1, 2] (by decide) rfl) jS d_ShareReader_takeShare_156
                ·
                  refine lv_iload jx jb d_ShareReader_takeShare_63 (lv_at jl 7 rfl) ?_
                  refine lv_iload jx jb d_ShareReader_takeShare_65 (lv_at jl 6 rfl) ?_
                  refine z_icmp_ne (tgt := 138) jx jb d_ShareReader_takeShare_67 (by decide) ⟨⟨by omega, by omega⟩, ⟨by omega, by omega⟩⟩ (fun hc67 => ?_) (fun hc67 => ?_)
                  ·
                    refine lv_iinc (v := iZ ((i : Int) + 1)) (lv' := [(7, .int (iZ ((i : Int) + 1))), (0, .ref h), (1, .int (iZ x)), (2, .int (iZ (y : Int))), (3, .ref q), (4, .int (iZ (5 + nbI (fun k => f k % 256) (8 * ts.toNat) 4))), (5, .int (iZ R2)), (6, .int (iZ v))]) jx jb d_ShareReader_takeShare_138 jl (k := 7) rfl (iZ_add _ _) (by decide) rfl (fun ls jl => ?_)
                    refine lv_goto (tgt := 45) jx jb d_ShareReader_takeShare_141 (by decide) ?_
                    exact ih45 (i + 1) v t R2 pt f2 (by omega) (by omega) (hv) (by omega) (hR2) (ht) (hS) (hf) _ _ (jP.sub [0, 1, 2] rfl) (jD.sub [0, 1, 2] (by decide) rfl) jS _ (lv_sub jl [1, 2, 3, 4, 5, 6, 7, 0] rfl)
                  ·
                    obtain ⟨s1, hvs, hsy, hrd⟩ := rdS_in hS (by omega) (by omega)
                    refine lv_aload_n jx jb d_ShareReader_takeShare_70 rfl (lv_at jl 0 rfl) ?_
                    refine lv_iload jx jb d_ShareReader_takeShare_71 (lv_at jl 5 rfl) ?_
                    refine z_backi (wr := [(q, .inl (cI, 256, .inl (zA f2)))]) jP jD jS jA [0, 1] [2] rfl rfl (by decide) (by decide) (va_runS (As := [.ref h, .int (iZ R2)]) (rest := []) ⟨jx, jb, jml, jown, jts⟩ (c_SR_takeNumber l D cI cB cZ H.size h hb L hd hn ov ts (t : Int) f R2 (by omega) (by omega)) (zc_S 2 jts cd_ShareReader_takeNumber lk_ShareReader_25 st_ShareReader_takeNumber in_ShareReader hd_ShareReader_takeNumber ⟨Nat.le_of_ble_eq_true rfl, Nat.le_of_ble_eq_true rfl⟩ rfl rfl) (z_preS jK jP jD [0, 1] (by decide) rfl rfl) rfl rfl jl.1 rfl (lv_room (Nat.le_of_ble_eq_true rfl)) d_ShareReader_takeShare_73 ⟨Nat.le_of_ble_eq_true rfl, Nat.le_of_ble_eq_true rfl⟩) (fun z73 u73 H locs hz73 jP jD jS => ?_)
                    obtain ⟨tb1_73, rfl⟩ : ∃ z, z = u73 := ⟨_, rfl⟩
                    have jP : va_P D classes [(h, .inr (0, [.ref hb, .int (iZ L), .int (iZ hd), .int (iZ hn), .int (iZ ov), .int (iZ ts), .int (iZ tb1_73)])), (hb, .inl (cB, 6000, .inl (zA f))), (q, .inl (cI, 256, .inl (zA f2)))] H := jP.sub [1, 2, 0] rfl
                    have jD : va_D A [(h, .inr (0, [.ref hb, .int (iZ L), .int (iZ hd), .int (iZ hn), .int (iZ ov), .int (iZ ts), .int (iZ tb1_73)])), (hb, .inl (cB, 6000, .inl (zA f))), (q, .inl (cI, 256, .inl (zA f2)))] := jD.sub [1, 2, 0] (by decide) rfl
                    have hq73 := hz73
                    obtain ⟨hz1, hz2, hz3, hz4⟩ := hq73
                    refine lv_istore (lv' := [(8, .int (iZ z73)), (0, .ref h), (1, .int (iZ x)), (2, .int (iZ (y : Int))), (3, .ref q), (4, .int (iZ (5 + nbI (fun k => f k % 256) (8 * ts.toNat) 4))), (5, .int (iZ R2)), (6, .int (iZ v)), (7, .int (iZ (i : Int)))]) jx jb d_ShareReader_takeShare_76 jl (by decide) rfl (fun ls jl => ?_)
                    refine lv_iload jx jb d_ShareReader_takeShare_78 (lv_at jl 0 rfl) ?_
                    refine z_if_ge (tgt := 86) jx jb d_ShareReader_takeShare_80 (by decide) ⟨by have := tkZ_lo (fun k => f k % 256) (8 * ts.toNat + t) (8 * (L - ts) - t) hR2.1 hR2.2; omega, by have := tkZ_lo (fun k => f k % 256) (8 * ts.toNat + t) (8 * (L - ts) - t) hR2.1 hR2.2; omega⟩ (fun hc80 => ?_) (fun hc80 => ?_)
                    ·
                      have hzn : z73 ≠ -1 := by omega
                      obtain ⟨hzA, hzB, hzC⟩ := hz2 hzn
                      have hav := tkU_av hz1 hzn
                      obtain rfl : tb1_73 = ((t + tkU (fun k => f k % 256) (8 * ts.toNat + t) R2 : Nat) : Int) := by rw [hzC]; exact (Int.natCast_add _ _).symm
                      have hwb := wgt_b (show -1 ≤ z73 - 1 ∧ z73 - 1 ≤ 65536 by omega)
                      have hw1 := wgt_le (show -1 ≤ z73 - 1 by omega) (show z73 - 1 ≤ R2 by omega) hR2.1
                      refine lv_aload_n jx jb d_ShareReader_takeShare_86 rfl (lv_at jl 4 rfl) ?_
                      refine lv_iload jx jb d_ShareReader_takeShare_87 (lv_at jl 8 rfl) ?_
                      refine lv_iload jx jb d_ShareReader_takeShare_89 (lv_at jl 0 rfl) ?_
                      refine lv_iconst (v := iZ 1) jx jb d_ShareReader_takeShare_91 rfl ?_
                      refine z_isub jx jb d_ShareReader_takeShare_92 ?_
                      refine z_iast jx jb jK.1 jP jD jS 2 0 rfl rfl s1 (by omega) d_ShareReader_takeShare_93 (fun H locs jP jD jS => ?_)
                      have jP : va_P D classes [(h, .inr (0, [.ref hb, .int (iZ L), .int (iZ hd), .int (iZ hn), .int (iZ ov), .int (iZ ts), .int (iZ ((t + tkU (fun k => f k % 256) (8 * ts.toNat + t) R2 : Nat) : Int))])), (hb, .inl (cB, 6000, .inl (zA f))), (q, .inl (cI, 256, .inl (zA (zu f2 s1 (z73 - 1)))))] H := jP
                      have jD : va_D A [(h, .inr (0, [.ref hb, .int (iZ L), .int (iZ hd), .int (iZ hn), .int (iZ ov), .int (iZ ts), .int (iZ ((t + tkU (fun k => f k % 256) (8 * ts.toNat + t) R2 : Nat) : Int))])), (hb, .inl (cB, 6000, .inl (zA f))), (q, .inl (cI, 256, .inl (zA (zu f2 s1 (z73 - 1)))))] := jD
                      refine lv_iload jx jb d_ShareReader_takeShare_94 (lv_at jl 6 rfl) ?_
                      refine lv_iload jx jb d_ShareReader_takeShare_96 (lv_at jl 0 rfl) ?_
                      refine lv_iconst (v := iZ 1) jx jb d_ShareReader_takeShare_98 rfl ?_
                      refine z_isub jx jb d_ShareReader_takeShare_99 ?_
                      refine z_backe (va_runSN (As := [.int (iZ (z73 - 1))]) (rest := [.int (iZ R2)]) ⟨jx, jb, jml, jown, jts⟩ (c_weight l D cI cB cZ (z73 - 1) (by first | assumption | omega)) (zc_SN 1 jts cd_SC_weight (jK.nest ln_ShareReader_31 rfl) st_SC_weight in_SC hd_SC_weight ⟨Nat.le_of_ble_eq_true rfl, Nat.le_of_ble_eq_true rfl⟩ rfl rfl) (z_preSR jK jP [] rfl) rfl rfl jl.1 rfl (lv_room (Nat.le_of_ble_eq_true rfl)) d_ShareReader_takeShare_100 ⟨Nat.le_of_ble_eq_true rfl, Nat.le_of_ble_eq_true rfl⟩) ?_
                      refine z_isub jx jb d_ShareReader_takeShare_103 ?_
                      refine lv_istore (lv' := [(5, .int (iZ (R2 - (wgt (z73 - 1))))), (8, .int (iZ z73)), (0, .ref h), (1, .int (iZ x)), (2, .int (iZ (y : Int))), (3, .ref q), (4, .int (iZ (5 + nbI (fun k => f k % 256) (8 * ts.toNat) 4))), (6, .int (iZ v)), (7, .int (iZ (i : Int)))]) jx jb d_ShareReader_takeShare_104 jl (by decide) rfl (fun ls jl => ?_)
                      refine lv_iload jx jb d_ShareReader_takeShare_106 (lv_at jl 0 rfl) ?_
                      refine z_if_gt (tgt := 114) jx jb d_ShareReader_takeShare_108 (by decide) ⟨by omega, by omega⟩ (fun hc108 => ?_) (fun hc108 => ?_)
                      ·
                        refine lv_iload jx jb d_ShareReader_takeShare_114 (lv_at jl 1 rfl) ?_
                        refine lv_iconst (v := iZ 1) jx jb d_ShareReader_takeShare_116 rfl ?_
                        refine z_icmp_ne (tgt := 132) jx jb d_ShareReader_takeShare_117 (by decide) ⟨⟨by omega, by omega⟩, ⟨by decide, by decide⟩⟩ (fun hc117 => ?_) (fun hc117 => ?_)
                        ·
                          refine lv_iload jx jb d_ShareReader_takeShare_132 (lv_at jl 8 rfl) ?_
                          refine lv_iconst (v := iZ 1) jx jb d_ShareReader_takeShare_134 rfl ?_
                          refine z_iadd jx jb d_ShareReader_takeShare_135 ?_
                          refine z_top (v + 1) (by omega) ?_
                          refine lv_istore (lv' := [(6, .int (iZ (v + 1))), (5, .int (iZ (R2 - (wgt (z73 - 1))))), (8, .int (iZ z73)), (0, .ref h), (1, .int (iZ x)), (2, .int (iZ (y : Int))), (3, .ref q), (4, .int (iZ (5 + nbI (fun k => f k % 256) (8 * ts.toNat) 4))), (7, .int (iZ (i : Int)))]) jx jb d_ShareReader_takeShare_136 jl (by decide) rfl (fun ls jl => ?_)
                          refine lv_iinc (v := iZ ((i : Int) + 1)) (lv' := [(7, .int (iZ ((i : Int) + 1))), (6, .int (iZ (v + 1))), (5, .int (iZ (R2 - (wgt (z73 - 1))))), (8, .int (iZ z73)), (0, .ref h), (1, .int (iZ x)), (2, .int (iZ (y : Int))), (3, .ref q), (4, .int (iZ (5 + nbI (fun k => f k % 256) (8 * ts.toNat) 4)))]) jx jb d_ShareReader_takeShare_138 jl (k := 8) rfl (iZ_add _ _) (by decide) rfl (fun ls jl => ?_)
                          refine lv_goto (tgt := 45) jx jb d_ShareReader_takeShare_141 (by decide) ?_
                          exact ih45 (i + 1) (v + 1) (t + tkU (fun k => f k % 256) (8 * ts.toNat + t) R2) (R2 - (wgt (z73 - 1))) (zu pt s1 (z73 - 1)) (zu f2 s1 (z73 - 1)) (by omega) (by omega) (by omega) (by omega) (by omega) (by omega) (rdS_n hrd (by omega) hz1 hzn (by omega) hc117 hvs) (zu_cg hf) _ _ (jP.sub [0, 1, 2] rfl) (jD.sub [0, 1, 2] (by decide) rfl) jS _ (lv_sub jl [4, 5, 6, 7, 8, 2, 1, 0] rfl)
                        ·
                          refine lv_aload_n jx jb d_ShareReader_takeShare_120 rfl (lv_at jl 2 rfl) ?_
                          refine lv_iload jx jb d_ShareReader_takeShare_121 (lv_at jl 8 rfl) ?_
                          refine lv_iconst (v := iZ 1) jx jb d_ShareReader_takeShare_123 rfl ?_
                          refine z_iadd jx jb d_ShareReader_takeShare_124 ?_
                          refine z_top ((s1 + 1 : Nat) : Int) (by omega) ?_
                          refine lv_iload_n jx jb d_ShareReader_takeShare_125 rfl (lv_at jl 4 rfl) ?_
                          refine z_backi (wr := [(q, .inl (cI, 256, .inl (zA (zu f2 s1 (z73 - 1)))))]) jP jD jS jA [0, 1] [2] rfl rfl (by decide) (by decide) (va_runS (As := [.ref h, .int (iZ ((s1 + 1 : Nat) : Int)), .int (iZ (y : Int))]) (rest := []) ⟨jx, jb, jml, jown, jts⟩ (c_SR_behindZeros l D cI cB cZ H.size h hb L hd hn ov ts f (t + tkU (fun k => f k % 256) (8 * ts.toNat + t) R2 : Nat) (s1 + 1 : Nat) y (by omega) (by omega)) (zc_S 3 jts cd_ShareReader_behindZeros lk_ShareReader_34 st_ShareReader_behindZeros in_ShareReader hd_ShareReader_behindZeros ⟨Nat.le_of_ble_eq_true rfl, Nat.le_of_ble_eq_true rfl⟩ rfl rfl) (z_preS jK jP jD [0, 1] (by decide) rfl rfl) rfl rfl jl.1 rfl (lv_room (Nat.le_of_ble_eq_true rfl)) d_ShareReader_takeShare_126 ⟨Nat.le_of_ble_eq_true rfl, Nat.le_of_ble_eq_true rfl⟩) (fun z126 u126 H locs hz126 jP jD jS => ?_)
                          obtain ⟨t1_126, rfl⟩ : ∃ z, z = u126 := ⟨_, rfl⟩
                          have jP : va_P D classes [(h, .inr (0, [.ref hb, .int (iZ L), .int (iZ hd), .int (iZ hn), .int (iZ ov), .int (iZ ts), .int (iZ (t1_126 : Int))])), (hb, .inl (cB, 6000, .inl (zA f))), (q, .inl (cI, 256, .inl (zA (zu f2 s1 (z73 - 1)))))] H := jP.sub [1, 2, 0] rfl
                          have jD : va_D A [(h, .inr (0, [.ref hb, .int (iZ L), .int (iZ hd), .int (iZ hn), .int (iZ ov), .int (iZ ts), .int (iZ (t1_126 : Int))])), (hb, .inl (cB, 6000, .inl (zA f))), (q, .inl (cI, 256, .inl (zA (zu f2 s1 (z73 - 1)))))] := jD.sub [1, 2, 0] (by decide) rfl
                          obtain ⟨hq126, hb126⟩ := hz126
                          have hbl := bz_le (b := (fun k => f k % 256)) (q0 := (8 * ts.toNat)) (last := y) (A := (8 * (L - ts))) (n := 256) (t := t + tkU (fun k => f k % 256) (8 * ts.toNat + t) R2) (s := s1 + 1)
                          have hbg := bz_ge (b := (fun k => f k % 256)) (q0 := (8 * ts.toNat)) (last := y) (A := (8 * (L - ts))) (n := 256) (t := t + tkU (fun k => f k % 256) (8 * ts.toNat + t) R2) (s := s1 + 1)
                          rw [← hq126] at hbl hbg
                          have hbl : z126 ≤ ((s1 + 1 : Nat) : Int) + 3 * 256 + 3 := hbl
                          have hbg : z126 = -1 ∨ ((s1 + 1 : Nat) : Int) ≤ z126 := hbg
                          refine lv_goto (tgt := 136) jx jb d_ShareReader_takeShare_129 (by decide) ?_
                          refine lv_istore (lv' := [(6, .int (iZ z126)), (5, .int (iZ (R2 - (wgt (z73 - 1))))), (8, .int (iZ z73)), (0, .ref h), (1, .int (iZ x)), (2, .int (iZ (y : Int))), (3, .ref q), (4, .int (iZ (5 + nbI (fun k => f k % 256) (8 * ts.toNat) 4))), (7, .int (iZ (i : Int)))]) jx jb d_ShareReader_takeShare_136 jl (by decide) rfl (fun ls jl => ?_)
                          refine lv_iinc (v := iZ ((i : Int) + 1)) (lv' := [(7, .int (iZ ((i : Int) + 1))), (6, .int (iZ z126)), (5, .int (iZ (R2 - (wgt (z73 - 1))))), (8, .int (iZ z73)), (0, .ref h), (1, .int (iZ x)), (2, .int (iZ (y : Int))), (3, .ref q), (4, .int (iZ (5 + nbI (fun k => f k % 256) (8 * ts.toNat) 4)))]) jx jb d_ShareReader_takeShare_138 jl (k := 8) rfl (iZ_add _ _) (by decide) rfl (fun ls jl => ?_)
                          refine lv_goto (tgt := 45) jx jb d_ShareReader_takeShare_141 (by decide) ?_
                          exact ih45 (i + 1) z126 t1_126 (R2 - (wgt (z73 - 1))) (zu pt s1 (z73 - 1)) (zu f2 s1 (z73 - 1)) (by omega) (by omega) (by omega) (by omega) (by omega) (hb126) (rdS_z hrd (by omega) hz1 (by omega) hc117 hq126) (zu_cg hf) _ _ (jP.sub [0, 1, 2] rfl) (jD.sub [0, 1, 2] (by decide) rfl) jS _ (lv_sub jl [4, 5, 6, 7, 8, 2, 1, 0] rfl)
                      ·
                        refine lv_iload jx jb d_ShareReader_takeShare_111 (lv_at jl 6 rfl) ?_
                        have hTT := rdR_ok hrd (by omega) hz1 hzn hc108
                        exact jret _ _ _ (((t + tkU (fun k => f k % 256) (8 * ts.toNat + t) R2 : Nat) : Int), (zu f2 s1 (z73 - 1))) _ _ (Or.inl rfl) (Or.inr (Or.inr ⟨by omega, by omega, Or.inl ⟨by rw [hTT], rfl, by rw [hTT], by omega, by rw [hTT]; exact zu_cg hf⟩⟩)) (jP.sub [0, 1, 2] rfl) (jD.sub [0, 1, 2] (by decide) rfl) jS d_ShareReader_takeShare_113
                    ·
                      refine lv_bipush (v := iZ (-3)) jx jb d_ShareReader_takeShare_83 (by decide) ?_
                      have hzm : z73 = -1 := Classical.byContradiction (fun q => absurd (hz2 q).1 (by omega))
                      exact jret _ _ _ (tb1_73, f2) _ _ (Or.inl rfl) (Or.inr (Or.inr ⟨by omega, by omega, Or.inr (Or.inr ⟨rdR_3 hrd (by omega) hz1 hzm, rfl⟩)⟩)) (jP.sub [0, 1, 2] rfl) (jD.sub [0, 1, 2] (by decide) rfl) jS d_ShareReader_takeShare_85
        exact hloop45 ((300 - 0) + 1) 0 0 4 (2 ^ ((5 + nbI (fun k => f k % 256) (8 * ts.toNat) 4).toNat)) (fun _ => 0) (fun k => if k < 256 then 0 else fp k) (Nat.lt_succ_self _) (by first | assumption | omega) (by first | assumption | omega) (by first | assumption | omega) (by first | assumption | omega) (by first | assumption | omega) (Or.inr (Or.inr ⟨0, rfl, Nat.zero_le _, rdR_0⟩)) (fun k hk => if_pos hk) _ _ (jP.sub [0, 1, 2] rfl) (jD.sub [0, 1, 2] (by decide) rfl) jS _ (lv_sub jl [4, 5, 6, 7, 3, 2, 1, 0] rfl)
      ·
        refine lv_iconst (v := iZ (-1)) jx jb d_ShareReader_takeShare_26 rfl ?_
        exact jret _ _ _ (((4 : Nat) : Int), fp) _ _ (Or.inl rfl) (Or.inr (Or.inl ⟨by omega, by omega, rfl⟩)) (jP.sub [0, 1, 2] rfl) (jD.sub [0, 1, 2] (by decide) rfl) jS d_ShareReader_takeShare_27
    ·
      exact absurd hc5 (by decide)
  ·
    refine z_if_ne (tgt := 11) jx jb d_ShareReader_takeShare_5 (by decide) ⟨by decide, by decide⟩ (fun hc5 => ?_) (fun hc5 => ?_)
    ·
      exact absurd hc5 (by decide)
    ·
      refine lv_bipush (v := iZ (-3)) jx jb d_ShareReader_takeShare_8 (by decide) ?_
      exact jret _ _ _ (0, fp) _ _ (Or.inl rfl) (Or.inl ⟨by omega, rfl⟩) (jP.sub [0, 1, 2] rfl) (jD.sub [0, 1, 2] (by decide) rfl) jS d_ShareReader_takeShare_10
abbrev rm_SC_read : Room := { frames := 6, cells := 0, slots := 0, locals := 141 }
set_option maxHeartbeats 4000000 in
set_option maxRecDepth 100000 in
theorem c_SC_read (l : Launch) (D : va_G) (cI cB cZ : ClassId) (sz : Nat) (g : Nat) (qc : Nat) (qp : Nat) (qi : Nat) (qs : Nat) (qr : Nat) (qo : Nat) (qx : Nat) (ps : Int) (pP : Nat) (pS : Nat) (pB : Nat) (pA : Nat) (pC : Nat) (pF : Nat) (pN : Nat) (o : Nat) (bi : Nat) (Li : Int) (hdi : Int) (hni : Int) (ovi : Int) (tsi : Int) (tbi : Int) (fi : Nat → Int) (fp : Nat → Int) (gP : Nat → Int) (gS : Nat → Int) (gB : Nat → Int) (gA : Nat → Int) (gC : Nat → Int) (gF : Nat → Int) (gN : Nat → Int) (x : Int) (y : Int) (hLi : 0 ≤ Li ∧ Li ≤ 6000) (hps : 0 ≤ ps ∧ ps ≤ Li) (hx1 : -2147483648 ≤ x ∧ x < 2147483648) (hy1 : -2147483648 ≤ y ∧ y < 2147483648) : Met l y_SC_read (.code y_SC_read b_SC_read 4 (some .int) :: zT) rm_SC_read (zPc D classes (TY cI cB cZ) [(g, .inr (3, [.ref qc, .ref qp, .ref qi, .ref qs, .ref qr, .ref qo, .ref qx, .int (iZ ps)])), (qi, .inr (0, [.ref bi, .int (iZ Li), .int (iZ hdi), .int (iZ hni), .int (iZ ovi), .int (iZ tsi), .int (iZ tbi)])), (bi, .inl (cB, 6000, .inl (zA fi))), (qp, .inl (cI, 256, .inl (zA fp))), (qs, .inr (1, [.ref pP, .ref pS, .ref pB, .ref pA, .ref pC, .ref pF, .ref pN, .int (iZ (o : Int))])), (pP, .inl (cI, 256, .inl (zA gP))), (pS, .inl (cI, 4096, .inl (zA gS))), (pB, .inl (cI, 4096, .inl (zA gB))), (pA, .inl (cI, 4096, .inl (zA gA))), (pC, .inl (cI, 4096, .inl (zA gC))), (pF, .inl (cI, 256, .inl (zA gF))), (pN, .inl (cI, 256, .inl (zA gN)))] sz [.ref g, .int (iZ x), .int (iZ y)]) (zFi (S := Int × Int × Int × (Nat → Int) × Int × (Nat → Int) × (Nat → Int) × (Nat → Int) × (Nat → Int) × (Nat → Int) × (Nat → Int) × (Nat → Int)) D classes (fun z u => (z = -4 ∧ ¬ ((5 ≤ x ∧ x ≤ 12) ∧ 0 ≤ y ∧ y < 256) ∧ u.1 = ps ∧ u.2.2.2.2.1 = (o : Int) ∧ u.2.2.2.2.2.1 = gP ∧ u.2.2.2.2.2.2.1 = gS ∧ u.2.2.2.2.2.2.2.1 = gB ∧ u.2.2.2.2.2.2.2.2.1 = gA ∧ u.2.2.2.2.2.2.2.2.2.1 = gC ∧ u.2.2.2.2.2.2.2.2.2.2.1 = gF ∧ u.2.2.2.2.2.2.2.2.2.2.2 = gN) ∨ (((5 ≤ x ∧ x ≤ 12) ∧ 0 ≤ y ∧ y < 256) ∧ rdQ (fun k => fi k % 256) (8 * ps.toNat) (8 * (Li - ps)) x y.toNat z ∧ u.1 = ps ∧ u.2.2.2.2.1 = (o : Int) ∧ u.2.2.2.2.2.1 = gP ∧ u.2.2.2.2.2.2.1 = gS ∧ u.2.2.2.2.2.2.2.1 = gB ∧ u.2.2.2.2.2.2.2.2.1 = gA ∧ u.2.2.2.2.2.2.2.2.2.1 = gC ∧ u.2.2.2.2.2.2.2.2.2.2.1 = gF ∧ u.2.2.2.2.2.2.2.2.2.2.2 = gN) ∨ (((5 ≤ x ∧ x ≤ 12) ∧ 0 ≤ y ∧ y < 256) ∧ rdG (fun k => fi k % 256) (8 * ps.toNat) (8 * (Li - ps)) x y.toNat z ∧ u.1 = ps + (((rdT (fun k => fi k % 256) (8 * ps.toNat) (8 * (Li - ps)) y.toNat).2.1 : Int) + 7) / 8 ∧ u.1 ≤ Li ∧ u.2.2.2.2.1 = z ∧ (∀ k, k < 256 → u.2.2.2.2.2.1 k = (rdT (fun k => fi k % 256) (8 * ps.toNat) (8 * (Li - ps)) y.toNat).2.2 k) ∧ u.2.2.2.2.2.2.1 = tbT u.2.2.2.2.2.1 z.toNat gS ∧ shOK u.2.2.2.2.2.1 u.2.2.2.2.2.2.1 u.2.2.2.2.2.2.2.1 u.2.2.2.2.2.2.2.2.1 u.2.2.2.2.2.2.2.2.2.1 u.2.2.2.2.2.2.2.2.2.2.1 z.toNat)) (fun u => [(g, .inr (3, [.ref qc, .ref qp, .ref qi, .ref qs, .ref qr, .ref qo, .ref qx, .int (iZ u.1)])), (qi, .inr (0, [.ref bi, .int (iZ Li), .int (iZ hdi), .int (iZ hni), .int (iZ ovi), .int (iZ u.2.1), .int (iZ u.2.2.1)])), (bi, .inl (cB, 6000, .inl (zA fi))), (qp, .inl (cI, 256, .inl (zA u.2.2.2.1))), (qs, .inr (1, [.ref pP, .ref pS, .ref pB, .ref pA, .ref pC, .ref pF, .ref pN, .int (iZ u.2.2.2.2.1)])), (pP, .inl (cI, 256, .inl (zA u.2.2.2.2.2.1))), (pS, .inl (cI, 4096, .inl (zA u.2.2.2.2.2.2.1))), (pB, .inl (cI, 4096, .inl (zA u.2.2.2.2.2.2.2.1))), (pA, .inl (cI, 4096, .inl (zA u.2.2.2.2.2.2.2.2.1))), (pC, .inl (cI, 4096, .inl (zA u.2.2.2.2.2.2.2.2.2.1))), (pF, .inl (cI, 256, .inl (zA u.2.2.2.2.2.2.2.2.2.2.1))), (pN, .inl (cI, 256, .inl (zA u.2.2.2.2.2.2.2.2.2.2.2)))]) (va_A [(g, .inr (3, [.ref qc, .ref qp, .ref qi, .ref qs, .ref qr, .ref qo, .ref qx, .int (iZ ps)])), (qi, .inr (0, [.ref bi, .int (iZ Li), .int (iZ hdi), .int (iZ hni), .int (iZ ovi), .int (iZ tsi), .int (iZ tbi)])), (bi, .inl (cB, 6000, .inl (zA fi))), (qp, .inl (cI, 256, .inl (zA fp))), (qs, .inr (1, [.ref pP, .ref pS, .ref pB, .ref pA, .ref pC, .ref pF, .ref pN, .int (iZ (o : Int))])), (pP, .inl (cI, 256, .inl (zA gP))), (pS, .inl (cI, 4096, .inl (zA gS))), (pB, .inl (cI, 4096, .inl (zA gB))), (pA, .inl (cI, 4096, .inl (zA gA))), (pC, .inl (cI, 4096, .inl (zA gC))), (pF, .inl (cI, 256, .inl (zA gF))), (pN, .inl (cI, 256, .inl (zA gN)))] sz)) 0 0 (va_A [(g, .inr (3, [.ref qc, .ref qp, .ref qi, .ref qs, .ref qr, .ref qo, .ref qx, .int (iZ ps)])), (qi, .inr (0, [.ref bi, .int (iZ Li), .int (iZ hdi), .int (iZ hni), .int (iZ ovi), .int (iZ tsi), .int (iZ tbi)])), (bi, .inl (cB, 6000, .inl (zA fi))), (qp, .inl (cI, 256, .inl (zA fp))), (qs, .inr (1, [.ref pP, .ref pS, .ref pB, .ref pA, .ref pC, .ref pF, .ref pN, .int (iZ (o : Int))])), (pP, .inl (cI, 256, .inl (zA gP))), (pS, .inl (cI, 4096, .inl (zA gS))), (pB, .inl (cI, 4096, .inl (zA gB))), (pA, .inl (cI, 4096, .inl (zA gA))), (pC, .inl (cI, 4096, .inl (zA gC))), (pF, .inl (cI, 256, .inl (zA gF))), (pN, .inl (cI, 256, .inl (zA gN)))] sz) := by
  refine z_ofi (by decide) (Nat.le_of_ble_eq_true rfl) (Or.inl rfl) ?_
  intro p e s m args below meth c A Q E jA jK jret H locs jP jD jS ls jl
  obtain ⟨jx, jb, jrt, jml, jown, jts, jlk⟩ := E
  have jown : s.vm.findClass R_SC = some m.cls := jown
  have jl : lv_has ls 4 [(0, .ref g), (1, .int (iZ x)), (2, .int (iZ y))] := jl
  refine lv_iload_n jx jb d_SC_read_0 rfl (lv_at jl 1 rfl) ?_
  refine z_backr (va_runS (As := [.int (iZ x)]) (rest := []) ⟨jx, jb, jml, jown, jts⟩ (c_isOrder l D cI cB cZ x (by first | assumption | omega)) (zc_S 1 jts cd_SC_isOrder lk_SC_77 st_SC_isOrder in_SC hd_SC_isOrder ⟨Nat.le_of_ble_eq_true rfl, Nat.le_of_ble_eq_true rfl⟩ rfl rfl) (z_preSR jK jP [] rfl) rfl rfl jl.1 rfl (lv_room (Nat.le_of_ble_eq_true rfl)) d_SC_read_1 ⟨Nat.le_of_ble_eq_true rfl, Nat.le_of_ble_eq_true rfl⟩) (fun z1 hz1 => ?_)
  rcases hz1 with ⟨rfl, hq1⟩ | ⟨rfl, hq1⟩
  ·
    refine z_if_eq (tgt := 14) jx jb d_SC_read_4 (by decide) ⟨by decide, by decide⟩ (fun hc4 => ?_) (fun hc4 => ?_)
    ·
      exact absurd hc4 (by decide)
    ·
      refine lv_iload_n jx jb d_SC_read_7 rfl (lv_at jl 2 rfl) ?_
      refine z_backr (va_runS (As := [.int (iZ y)]) (rest := []) ⟨jx, jb, jml, jown, jts⟩ (c_isSymbol l D cI cB cZ y (by first | assumption | omega)) (zc_S 1 jts cd_SC_isSymbol lk_SC_68 st_SC_isSymbol in_SC hd_SC_isSymbol ⟨Nat.le_of_ble_eq_true rfl, Nat.le_of_ble_eq_true rfl⟩ rfl rfl) (z_preSR jK jP [] rfl) rfl rfl jl.1 rfl (lv_room (Nat.le_of_ble_eq_true rfl)) d_SC_read_8 ⟨Nat.le_of_ble_eq_true rfl, Nat.le_of_ble_eq_true rfl⟩) (fun z8 hz8 => ?_)
      rcases hz8 with ⟨rfl, hq8⟩ | ⟨rfl, hq8⟩
      ·
        refine z_if_ne (tgt := 17) jx jb d_SC_read_11 (by decide) ⟨by decide, by decide⟩ (fun hc11 => ?_) (fun hc11 => ?_)
        ·
          refine lv_aload_n jx jb d_SC_read_17 rfl (lv_at jl 0 rfl) ?_
          refine va_get (D := D) (ci := 3) (v := .ref qi) (C := R_SC) (T := F_SC) (N := 8) jx jb jts i_SC jown jK.1 jP 0 rfl rfl 2 (by decide) (jts _ fl_SC_19) (fun _ h9 => h9) rfl d_SC_read_18 ?_
          refine lv_aload_n jx jb d_SC_read_21 rfl (lv_at jl 0 rfl) ?_
          refine va_get (D := D) (ci := 3) (v := .int (iZ ps)) (C := R_SC) (T := F_SC) (N := 8) jx jb jts i_SC jown jK.1 jP 0 rfl rfl 7 (by decide) (jts _ fl_SC_55) (fun _ h9 => h9) rfl d_SC_read_22 ?_
          refine z_backv (wr := [(g, .inr (3, [.ref qc, .ref qp, .ref qi, .ref qs, .ref qr, .ref qo, .ref qx, .int (iZ ps)])), (bi, .inl (cB, 6000, .inl (zA fi))), (qp, .inl (cI, 256, .inl (zA fp))), (qs, .inr (1, [.ref pP, .ref pS, .ref pB, .ref pA, .ref pC, .ref pF, .ref pN, .int (iZ (o : Int))])), (pP, .inl (cI, 256, .inl (zA gP))), (pS, .inl (cI, 4096, .inl (zA gS))), (pB, .inl (cI, 4096, .inl (zA gB))), (pA, .inl (cI, 4096, .inl (zA gA))), (pC, .inl (cI, 4096, .inl (zA gC))), (pF, .inl (cI, 256, .inl (zA gF))), (pN, .inl (cI, 256, .inl (zA gN)))]) jP jD jS jA [1] [0, 2, 3, 4, 5, 6, 7, 8, 9, 10, 11] rfl rfl (by decide) (by decide) (va_runV (As := [.int (iZ ps)]) (rest := []) ⟨jx, jb, jml, jown, jts⟩ (c_Row_startTaking l D cI cB cZ H.size qi bi Li hdi hni ovi tsi tbi ps) (zc_V 1 jts cd_Row_startTaking lk_SC_101 im_Row_startTaking se_Row_startTaking in_Row hd_Row_startTaking ⟨Nat.le_of_ble_eq_true rfl, Nat.le_of_ble_eq_true rfl⟩ rfl rfl) (z_preV jK jP jD [1] (by decide) rfl rfl rfl rfl) rfl rfl jl.1 rfl (lv_room (Nat.le_of_ble_eq_true rfl)) d_SC_read_25 ⟨Nat.le_of_ble_eq_true rfl, Nat.le_of_ble_eq_true rfl⟩) (fun u25 H locs hu25 jP jD jS => ?_)
          have jP : va_P D classes [(g, .inr (3, [.ref qc, .ref qp, .ref qi, .ref qs, .ref qr, .ref qo, .ref qx, .int (iZ ps)])), (qi, .inr (0, [.ref bi, .int (iZ Li), .int (iZ hdi), .int (iZ hni), .int (iZ ovi), .int (iZ ps), .int (iZ 0)])), (bi, .inl (cB, 6000, .inl (zA fi))), (qp, .inl (cI, 256, .inl (zA fp))), (qs, .inr (1, [.ref pP, .ref pS, .ref pB, .ref pA, .ref pC, .ref pF, .ref pN, .int (iZ (o : Int))])), (pP, .inl (cI, 256, .inl (zA gP))), (pS, .inl (cI, 4096, .inl (zA gS))), (pB, .inl (cI, 4096, .inl (zA gB))), (pA, .inl (cI, 4096, .inl (zA gA))), (pC, .inl (cI, 4096, .inl (zA gC))), (pF, .inl (cI, 256, .inl (zA gF))), (pN, .inl (cI, 256, .inl (zA gN)))] H := jP.sub [0, 11, 1, 2, 3, 4, 5, 6, 7, 8, 9, 10] rfl
          have jD : va_D A [(g, .inr (3, [.ref qc, .ref qp, .ref qi, .ref qs, .ref qr, .ref qo, .ref qx, .int (iZ ps)])), (qi, .inr (0, [.ref bi, .int (iZ Li), .int (iZ hdi), .int (iZ hni), .int (iZ ovi), .int (iZ ps), .int (iZ 0)])), (bi, .inl (cB, 6000, .inl (zA fi))), (qp, .inl (cI, 256, .inl (zA fp))), (qs, .inr (1, [.ref pP, .ref pS, .ref pB, .ref pA, .ref pC, .ref pF, .ref pN, .int (iZ (o : Int))])), (pP, .inl (cI, 256, .inl (zA gP))), (pS, .inl (cI, 4096, .inl (zA gS))), (pB, .inl (cI, 4096, .inl (zA gB))), (pA, .inl (cI, 4096, .inl (zA gA))), (pC, .inl (cI, 4096, .inl (zA gC))), (pF, .inl (cI, 256, .inl (zA gF))), (pN, .inl (cI, 256, .inl (zA gN)))] := jD.sub [0, 11, 1, 2, 3, 4, 5, 6, 7, 8, 9, 10] (by decide) rfl
          refine lv_aload_n jx jb d_SC_read_28 rfl (lv_at jl 0 rfl) ?_
          refine va_get (D := D) (ci := 3) (v := .ref qi) (C := R_SC) (T := F_SC) (N := 8) jx jb jts i_SC jown jK.1 jP 0 rfl rfl 2 (by decide) (jts _ fl_SC_19) (fun _ h9 => h9) rfl d_SC_read_29 ?_
          refine lv_iload_n jx jb d_SC_read_32 rfl (lv_at jl 1 rfl) ?_
          refine lv_iload_n jx jb d_SC_read_33 rfl (lv_at jl 2 rfl) ?_
          refine z_top ((y.toNat : Nat) : Int) (by omega) ?_
          refine lv_aload_n jx jb d_SC_read_34 rfl (lv_at jl 0 rfl) ?_
          refine va_get (D := D) (ci := 3) (v := .ref qp) (C := R_SC) (T := F_SC) (N := 8) jx jb jts i_SC jown jK.1 jP 0 rfl rfl 1 (by decide) (jts _ fl_SC_13) (fun _ h9 => h9) rfl d_SC_read_35 ?_
          refine z_backi (wr := [(g, .inr (3, [.ref qc, .ref qp, .ref qi, .ref qs, .ref qr, .ref qo, .ref qx, .int (iZ ps)])), (qs, .inr (1, [.ref pP, .ref pS, .ref pB, .ref pA, .ref pC, .ref pF, .ref pN, .int (iZ (o : Int))])), (pP, .inl (cI, 256, .inl (zA gP))), (pS, .inl (cI, 4096, .inl (zA gS))), (pB, .inl (cI, 4096, .inl (zA gB))), (pA, .inl (cI, 4096, .inl (zA gA))), (pC, .inl (cI, 4096, .inl (zA gC))), (pF, .inl (cI, 256, .inl (zA gF))), (pN, .inl (cI, 256, .inl (zA gN)))]) jP jD jS jA [1, 2, 3] [0, 4, 5, 6, 7, 8, 9, 10, 11] rfl rfl (by decide) (by decide) (va_runS (As := [.ref qi, .int (iZ x), .int (iZ ((y.toNat : Nat) : Int)), .ref qp]) (rest := []) ⟨jx, jb, jml, jown, jts⟩ (c_SR_takeShare l D cI cB cZ H.size qi bi Li hdi hni ovi ps fi qp fp x (y.toNat : Nat) (by omega) (by omega) (by omega)) (zc_S 4 jts cd_ShareReader_takeShare lk_SC_104 st_ShareReader_takeShare in_ShareReader hd_ShareReader_takeShare ⟨Nat.le_of_ble_eq_true rfl, Nat.le_of_ble_eq_true rfl⟩ rfl rfl) (z_preS jK jP jD [1, 2, 3] (by decide) rfl rfl) rfl rfl jl.1 rfl (lv_room (Nat.le_of_ble_eq_true rfl)) d_SC_read_38 ⟨Nat.le_of_ble_eq_true rfl, Nat.le_of_ble_eq_true rfl⟩) (fun z38 u38 H locs hz38 jP jD jS => ?_)
          obtain ⟨tb1_38, fp1_38⟩ := u38
          have jP : va_P D classes [(g, .inr (3, [.ref qc, .ref qp, .ref qi, .ref qs, .ref qr, .ref qo, .ref qx, .int (iZ ps)])), (qi, .inr (0, [.ref bi, .int (iZ Li), .int (iZ hdi), .int (iZ hni), .int (iZ ovi), .int (iZ ps), .int (iZ tb1_38)])), (bi, .inl (cB, 6000, .inl (zA fi))), (qp, .inl (cI, 256, .inl (zA fp1_38))), (qs, .inr (1, [.ref pP, .ref pS, .ref pB, .ref pA, .ref pC, .ref pF, .ref pN, .int (iZ (o : Int))])), (pP, .inl (cI, 256, .inl (zA gP))), (pS, .inl (cI, 4096, .inl (zA gS))), (pB, .inl (cI, 4096, .inl (zA gB))), (pA, .inl (cI, 4096, .inl (zA gA))), (pC, .inl (cI, 4096, .inl (zA gC))), (pF, .inl (cI, 256, .inl (zA gF))), (pN, .inl (cI, 256, .inl (zA gN)))] H := jP.sub [0, 9, 10, 11, 1, 2, 3, 4, 5, 6, 7, 8] rfl
          have jD : va_D A [(g, .inr (3, [.ref qc, .ref qp, .ref qi, .ref qs, .ref qr, .ref qo, .ref qx, .int (iZ ps)])), (qi, .inr (0, [.ref bi, .int (iZ Li), .int (iZ hdi), .int (iZ hni), .int (iZ ovi), .int (iZ ps), .int (iZ tb1_38)])), (bi, .inl (cB, 6000, .inl (zA fi))), (qp, .inl (cI, 256, .inl (zA fp1_38))), (qs, .inr (1, [.ref pP, .ref pS, .ref pB, .ref pA, .ref pC, .ref pF, .ref pN, .int (iZ (o : Int))])), (pP, .inl (cI, 256, .inl (zA gP))), (pS, .inl (cI, 4096, .inl (zA gS))), (pB, .inl (cI, 4096, .inl (zA gB))), (pA, .inl (cI, 4096, .inl (zA gA))), (pC, .inl (cI, 4096, .inl (zA gC))), (pF, .inl (cI, 256, .inl (zA gF))), (pN, .inl (cI, 256, .inl (zA gN)))] := jD.sub [0, 9, 10, 11, 1, 2, 3, 4, 5, 6, 7, 8] (by decide) rfl
          have hz38 := rdP_cases hz38
          rcases hz38 with hQ38 | ⟨hG38, hA38, hB38, hC38⟩
          ·
            have hneg := rdQ_neg hQ38
            refine lv_istore_n (lv' := [(3, .int (iZ z38)), (0, .ref g), (1, .int (iZ x)), (2, .int (iZ y))]) jx jb d_SC_read_41 rfl jl (by decide) rfl (fun ls jl => ?_)
            refine lv_iload_n jx jb d_SC_read_42 rfl (lv_at jl 0 rfl) ?_
            refine z_if_le (tgt := 74) jx jb d_SC_read_43 (by decide) ⟨by omega, by omega⟩ (fun hc43 => ?_) (fun hc43 => ?_)
            ·
              refine lv_iload_n jx jb d_SC_read_74 rfl (lv_at jl 0 rfl) ?_
              exact jret _ _ _ (ps, ps, tb1_38, fp1_38, (o : Int), gP, gS, gB, gA, gC, gF, gN) _ _ (Or.inl rfl) (Or.inr (Or.inl ⟨by omega, hQ38, rfl, rfl, rfl, rfl, rfl, rfl, rfl, rfl, rfl⟩)) (jP.sub [0, 1, 2, 3, 4, 5, 6, 7, 8, 9, 10, 11] rfl) (jD.sub [0, 1, 2, 3, 4, 5, 6, 7, 8, 9, 10, 11] (by decide) rfl) jS d_SC_read_75
            ·
              exfalso; omega
          ·
            have hC38 : ∀ k, k < 256 → fp1_38 k = (rdT (fun k => fi k % 256) (8 * ps.toNat) (8 * (Li - ps)) y.toNat).2.2 k := hC38
            have hA38 : tb1_38 = ((rdT (fun k => fi k % 256) (8 * ps.toNat) (8 * (Li - ps)) y.toNat).2.1 : Int) := hA38
            have hB38 : tb1_38 ≤ (8 * (Li - ps)) := hB38
            have hzz := hG38.2.2.2
            have hnb4 := nbI_b (fun k => fi k % 256) (8 * ps.toNat) 4
            have hgx := hG38.2.1
            have htk := rdT_ok (show y.toNat ≤ 255 by omega) (by omega) hG38.2.2.1
            refine lv_istore_n (lv' := [(3, .int (iZ z38)), (0, .ref g), (1, .int (iZ x)), (2, .int (iZ y))]) jx jb d_SC_read_41 rfl jl (by decide) rfl (fun ls jl => ?_)
            refine lv_iload_n jx jb d_SC_read_42 rfl (lv_at jl 0 rfl) ?_
            refine z_if_le (tgt := 74) jx jb d_SC_read_43 (by decide) ⟨by omega, by omega⟩ (fun hc43 => ?_) (fun hc43 => ?_)
            ·
              exfalso; omega
            ·
              refine lv_aload_n jx jb d_SC_read_46 rfl (lv_at jl 1 rfl) ?_
              refine va_get (D := D) (ci := 3) (v := .ref qs) (C := R_SC) (T := F_SC) (N := 8) jx jb jts i_SC jown jK.1 jP 0 rfl rfl 3 (by decide) (jts _ fl_SC_26) (fun _ h9 => h9) rfl d_SC_read_47 ?_
              refine lv_iload_n jx jb d_SC_read_50 rfl (lv_at jl 0 rfl) ?_
              refine z_top ((z38.toNat : Nat) : Int) (by omega) ?_
              refine lv_aload_n jx jb d_SC_read_51 rfl (lv_at jl 1 rfl) ?_
              refine va_get (D := D) (ci := 3) (v := .ref qp) (C := R_SC) (T := F_SC) (N := 8) jx jb jts i_SC jown jK.1 jP 0 rfl rfl 1 (by decide) (jts _ fl_SC_13) (fun _ h9 => h9) rfl d_SC_read_52 ?_
              refine z_backv (wr := [(g, .inr (3, [.ref qc, .ref qp, .ref qi, .ref qs, .ref qr, .ref qo, .ref qx, .int (iZ ps)])), (qi, .inr (0, [.ref bi, .int (iZ Li), .int (iZ hdi), .int (iZ hni), .int (iZ ovi), .int (iZ ps), .int (iZ tb1_38)])), (bi, .inl (cB, 6000, .inl (zA fi)))]) jP jD jS jA [4, 5, 6, 7, 8, 9, 10, 11, 3] [0, 1, 2] rfl rfl (by decide) (by decide) (va_runV (As := [.int (iZ ((z38.toNat : Nat) : Int)), .ref qp]) (rest := []) ⟨jx, jb, jml, jown, jts⟩ (c_Share_become l D cI cB cZ H.size qs pP pS pB pA pC pF pN (o : Int) (z38.toNat : Nat) qp gP gS gB gA gC gF gN fp1_38 (by omega) (fun k hk => by rw [hC38 k hk]; exact htk.2 k) (by rw [cum_congr (fun k hk => hC38 k hk), htk.1, hzz])) (zc_V 2 jts cd_Share_become lk_SC_84 im_Share_become se_Share_become in_Share hd_Share_become ⟨Nat.le_of_ble_eq_true rfl, Nat.le_of_ble_eq_true rfl⟩ rfl rfl) (z_preV jK jP jD [4, 5, 6, 7, 8, 9, 10, 11, 3] (by decide) rfl rfl rfl rfl) rfl rfl jl.1 rfl (lv_room (Nat.le_of_ble_eq_true rfl)) d_SC_read_55 ⟨Nat.le_of_ble_eq_true rfl, Nat.le_of_ble_eq_true rfl⟩) (fun u55 H locs hu55 jP jD jS => ?_)
              obtain ⟨gP1_55, gS1_55, gB1_55, gA1_55, gC1_55, gF1_55, gN1_55⟩ := u55
              have jP : va_P D classes [(g, .inr (3, [.ref qc, .ref qp, .ref qi, .ref qs, .ref qr, .ref qo, .ref qx, .int (iZ ps)])), (qi, .inr (0, [.ref bi, .int (iZ Li), .int (iZ hdi), .int (iZ hni), .int (iZ ovi), .int (iZ ps), .int (iZ tb1_38)])), (bi, .inl (cB, 6000, .inl (zA fi))), (qp, .inl (cI, 256, .inl (zA fp1_38))), (qs, .inr (1, [.ref pP, .ref pS, .ref pB, .ref pA, .ref pC, .ref pF, .ref pN, .int (iZ ((z38.toNat : Nat) : Int))])), (pP, .inl (cI, 256, .inl (zA gP1_55))), (pS, .inl (cI, 4096, .inl (zA gS1_55))), (pB, .inl (cI, 4096, .inl (zA gB1_55))), (pA, .inl (cI, 4096, .inl (zA gA1_55))), (pC, .inl (cI, 4096, .inl (zA gC1_55))), (pF, .inl (cI, 256, .inl (zA gF1_55))), (pN, .inl (cI, 256, .inl (zA gN1_55)))] H := jP.sub [0, 1, 2, 11, 3, 4, 5, 6, 7, 8, 9, 10] rfl
              have jD : va_D A [(g, .inr (3, [.ref qc, .ref qp, .ref qi, .ref qs, .ref qr, .ref qo, .ref qx, .int (iZ ps)])), (qi, .inr (0, [.ref bi, .int (iZ Li), .int (iZ hdi), .int (iZ hni), .int (iZ ovi), .int (iZ ps), .int (iZ tb1_38)])), (bi, .inl (cB, 6000, .inl (zA fi))), (qp, .inl (cI, 256, .inl (zA fp1_38))), (qs, .inr (1, [.ref pP, .ref pS, .ref pB, .ref pA, .ref pC, .ref pF, .ref pN, .int (iZ ((z38.toNat : Nat) : Int))])), (pP, .inl (cI, 256, .inl (zA gP1_55))), (pS, .inl (cI, 4096, .inl (zA gS1_55))), (pB, .inl (cI, 4096, .inl (zA gB1_55))), (pA, .inl (cI, 4096, .inl (zA gA1_55))), (pC, .inl (cI, 4096, .inl (zA gC1_55))), (pF, .inl (cI, 256, .inl (zA gF1_55))), (pN, .inl (cI, 256, .inl (zA gN1_55)))] := jD.sub [0, 1, 2, 11, 3, 4, 5, 6, 7, 8, 9, 10] (by decide) rfl
              obtain ⟨hu1, hu2, hu3⟩ := hu55
              refine lv_aload_n jx jb d_SC_read_58 rfl (lv_at jl 1 rfl) ?_
              refine lv_dup jx jb d_SC_read_59 rfl ?_
              refine va_get (D := D) (ci := 3) (v := .int (iZ ps)) (C := R_SC) (T := F_SC) (N := 8) jx jb jts i_SC jown jK.1 jP 0 rfl rfl 7 (by decide) (jts _ fl_SC_55) (fun _ h9 => h9) rfl d_SC_read_60 ?_
              refine lv_aload_n jx jb d_SC_read_63 rfl (lv_at jl 1 rfl) ?_
              refine va_get (D := D) (ci := 3) (v := .ref qi) (C := R_SC) (T := F_SC) (N := 8) jx jb jts i_SC jown jK.1 jP 0 rfl rfl 2 (by decide) (jts _ fl_SC_19) (fun _ h9 => h9) rfl d_SC_read_64 ?_
              refine z_backe (va_runV (As := []) (rest := [.int (iZ ps), .ref g]) ⟨jx, jb, jml, jown, jts⟩ (c_Row_bytesTaken l D cI cB cZ qi bi Li hdi hni ovi ps tb1_38 (by omega)) (zc_V 0 jts cd_Row_bytesTaken lk_SC_110 im_Row_bytesTaken se_Row_bytesTaken in_Row hd_Row_bytesTaken ⟨Nat.le_of_ble_eq_true rfl, Nat.le_of_ble_eq_true rfl⟩ rfl rfl) (z_preVR jK jP [1] rfl rfl rfl) rfl rfl jl.1 rfl (lv_room (Nat.le_of_ble_eq_true rfl)) d_SC_read_67 ⟨Nat.le_of_ble_eq_true rfl, Nat.le_of_ble_eq_true rfl⟩) ?_
              refine z_iadd jx jb d_SC_read_70 ?_
              refine va_put (D := D) (ci := 3) (v := .int (iZ (ps + ((tb1_38 + 7) / 8)))) (ty := .int) (C := R_SC) (T := F_SC) (N := 8) jx jb jts i_SC t_SC t_SC_ok n_SC jown jK.1 jP jD jS 0 rfl rfl 7 (by decide) (jts _ fl_SC_55) (fun _ h9 => h9) rfl (by decide +kernel) rfl rfl (Nat.le_of_ble_eq_true rfl) d_SC_read_71 (fun H locs jP jD jS => ?_)
              have jP : va_P D classes [(g, .inr (3, [.ref qc, .ref qp, .ref qi, .ref qs, .ref qr, .ref qo, .ref qx, .int (iZ (ps + ((tb1_38 + 7) / 8)))])), (qi, .inr (0, [.ref bi, .int (iZ Li), .int (iZ hdi), .int (iZ hni), .int (iZ ovi), .int (iZ ps), .int (iZ tb1_38)])), (bi, .inl (cB, 6000, .inl (zA fi))), (qp, .inl (cI, 256, .inl (zA fp1_38))), (qs, .inr (1, [.ref pP, .ref pS, .ref pB, .ref pA, .ref pC, .ref pF, .ref pN, .int (iZ ((z38.toNat : Nat) : Int))])), (pP, .inl (cI, 256, .inl (zA gP1_55))), (pS, .inl (cI, 4096, .inl (zA gS1_55))), (pB, .inl (cI, 4096, .inl (zA gB1_55))), (pA, .inl (cI, 4096, .inl (zA gA1_55))), (pC, .inl (cI, 4096, .inl (zA gC1_55))), (pF, .inl (cI, 256, .inl (zA gF1_55))), (pN, .inl (cI, 256, .inl (zA gN1_55)))] H := jP
              have jD : va_D A [(g, .inr (3, [.ref qc, .ref qp, .ref qi, .ref qs, .ref qr, .ref qo, .ref qx, .int (iZ (ps + ((tb1_38 + 7) / 8)))])), (qi, .inr (0, [.ref bi, .int (iZ Li), .int (iZ hdi), .int (iZ hni), .int (iZ ovi), .int (iZ ps), .int (iZ tb1_38)])), (bi, .inl (cB, 6000, .inl (zA fi))), (qp, .inl (cI, 256, .inl (zA fp1_38))), (qs, .inr (1, [.ref pP, .ref pS, .ref pB, .ref pA, .ref pC, .ref pF, .ref pN, .int (iZ ((z38.toNat : Nat) : Int))])), (pP, .inl (cI, 256, .inl (zA gP1_55))), (pS, .inl (cI, 4096, .inl (zA gS1_55))), (pB, .inl (cI, 4096, .inl (zA gB1_55))), (pA, .inl (cI, 4096, .inl (zA gA1_55))), (pC, .inl (cI, 4096, .inl (zA gC1_55))), (pF, .inl (cI, 256, .inl (zA gF1_55))), (pN, .inl (cI, 256, .inl (zA gN1_55)))] := jD
              refine lv_iload_n jx jb d_SC_read_74 rfl (lv_at jl 0 rfl) ?_
              exact jret _ _ _ ((ps + ((tb1_38 + 7) / 8)), ps, tb1_38, fp1_38, ((z38.toNat : Nat) : Int), gP1_55, gS1_55, gB1_55, gA1_55, gC1_55, gF1_55, gN1_55) _ _ (Or.inl rfl) (Or.inr (Or.inr ⟨by omega, hG38, by show ps + (tb1_38 + 7) / 8 = _; rw [hA38], show ps + (tb1_38 + 7) / 8 ≤ Li by omega, show ((z38.toNat : Nat) : Int) = z38 by omega, fun k hk => (hu1 k hk).trans (hC38 k hk), hu2, hu3⟩)) (jP.sub [0, 1, 2, 3, 4, 5, 6, 7, 8, 9, 10, 11] rfl) (jD.sub [0, 1, 2, 3, 4, 5, 6, 7, 8, 9, 10, 11] (by decide) rfl) jS d_SC_read_75
        ·
          exact absurd hc11 (by decide)
      ·
        refine z_if_ne (tgt := 17) jx jb d_SC_read_11 (by decide) ⟨by decide, by decide⟩ (fun hc11 => ?_) (fun hc11 => ?_)
        ·
          exact absurd hc11 (by decide)
        ·
          refine lv_bipush (v := iZ (-4)) jx jb d_SC_read_14 (by decide) ?_
          exact jret _ _ _ (ps, tsi, tbi, fp, (o : Int), gP, gS, gB, gA, gC, gF, gN) _ _ (Or.inl rfl) (Or.inl ⟨rfl, by omega, rfl, rfl, rfl, rfl, rfl, rfl, rfl, rfl, rfl⟩) (jP.sub [0, 1, 2, 3, 4, 5, 6, 7, 8, 9, 10, 11] rfl) (jD.sub [0, 1, 2, 3, 4, 5, 6, 7, 8, 9, 10, 11] (by decide) rfl) jS d_SC_read_16
  ·
    refine z_if_eq (tgt := 14) jx jb d_SC_read_4 (by decide) ⟨by decide, by decide⟩ (fun hc4 => ?_) (fun hc4 => ?_)
    ·
      refine lv_bipush (v := iZ (-4)) jx jb d_SC_read_14 (by decide) ?_
      exact jret _ _ _ (ps, tsi, tbi, fp, (o : Int), gP, gS, gB, gA, gC, gF, gN) _ _ (Or.inl rfl) (Or.inl ⟨rfl, by omega, rfl, rfl, rfl, rfl, rfl, rfl, rfl, rfl, rfl⟩) (jP.sub [0, 1, 2, 3, 4, 5, 6, 7, 8, 9, 10, 11] rfl) (jD.sub [0, 1, 2, 3, 4, 5, 6, 7, 8, 9, 10, 11] (by decide) rfl) jS d_SC_read_16
    ·
      exact absurd hc4 (by decide)
