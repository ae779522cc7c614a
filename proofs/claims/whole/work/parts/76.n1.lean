theorem cd_Mod_lowestCell : Cond.code y_Mod_lowestCell b_Mod_lowestCell 3 (some .int) ∈ zT := zT_of (List.mem_of_getElem? (i := 671) (by decide +kernel)) rfl
theorem hd_Mod_lowestCell : y_Mod_lowestCell.cls ≠ "java/lang/invoke/MethodHandle" ∧ y_Mod_lowestCell.cls ≠ "java/lang/invoke/VarHandle" ∧ (parseMethodDescriptor y_Mod_lowestCell.desc).map (fun d => d.parameters.length) = some 1 := by decide +kernel
theorem lk_Mod_121 : Cond.methodLink R_Mod 121 y_Mod_lowestCell ∈ zT := zT_of (List.mem_of_getElem? (i := 668) (by decide +kernel)) rfl
theorem im_Mod_lowestCell : Cond.instanceMethod y_Mod_lowestCell ∈ zT := zT_of (List.mem_of_getElem? (i := 670) (by decide +kernel)) rfl
theorem se_Mod_lowestCell : Cond.selects R_Mod y_Mod_lowestCell y_Mod_lowestCell ∈ zT := zT_of (List.mem_of_getElem? (i := 29) (by decide +kernel)) rfl
theorem cd_Mod_numberFor : Cond.code y_Mod_numberFor b_Mod_numberFor 6 (some .int) ∈ zT := zT_of (List.mem_of_getElem? (i := 675) (by decide +kernel)) rfl
theorem hd_Mod_numberFor : y_Mod_numberFor.cls ≠ "java/lang/invoke/MethodHandle" ∧ y_Mod_numberFor.cls ≠ "java/lang/invoke/VarHandle" ∧ (parseMethodDescriptor y_Mod_numberFor.desc).map (fun d => d.parameters.length) = some 2 := by decide +kernel
theorem lk_Mod_124 : Cond.methodLink R_Mod 124 y_Mod_numberFor ∈ zT := zT_of (List.mem_of_getElem? (i := 672) (by decide +kernel)) rfl
theorem im_Mod_numberFor : Cond.instanceMethod y_Mod_numberFor ∈ zT := zT_of (List.mem_of_getElem? (i := 674) (by decide +kernel)) rfl
theorem se_Mod_numberFor : Cond.selects R_Mod y_Mod_numberFor y_Mod_numberFor ∈ zT := zT_of (List.mem_of_getElem? (i := 30) (by decide +kernel)) rfl
theorem cd_Mod_cellOf : Cond.code y_Mod_cellOf b_Mod_cellOf 5 (some .int) ∈ zT := zT_of (List.mem_of_getElem? (i := 679) (by decide +kernel)) rfl
theorem hd_Mod_cellOf : y_Mod_cellOf.cls ≠ "java/lang/invoke/MethodHandle" ∧ y_Mod_cellOf.cls ≠ "java/lang/invoke/VarHandle" ∧ (parseMethodDescriptor y_Mod_cellOf.desc).map (fun d => d.parameters.length) = some 2 := by decide +kernel
theorem lk_Mod_127 : Cond.methodLink R_Mod 127 y_Mod_cellOf ∈ zT := zT_of (List.mem_of_getElem? (i := 676) (by decide +kernel)) rfl
theorem im_Mod_cellOf : Cond.instanceMethod y_Mod_cellOf ∈ zT := zT_of (List.mem_of_getElem? (i := 678) (by decide +kernel)) rfl
theorem se_Mod_cellOf : Cond.selects R_Mod y_Mod_cellOf y_Mod_cellOf ∈ zT := zT_of (List.mem_of_getElem? (i := 31) (by decide +kernel)) rfl
theorem cd_Mod_code : Cond.code y_Mod_code b_Mod_code 6 (some .int) ∈ zT := zT_of (List.mem_of_getElem? (i := 667) (by decide +kernel)) rfl
theorem hd_Mod_code : y_Mod_code.cls ≠ "java/lang/invoke/MethodHandle" ∧ y_Mod_code.cls ≠ "java/lang/invoke/VarHandle" ∧ (parseMethodDescriptor y_Mod_code.desc).map (fun d => d.parameters.length) = some 1 := by decide +kernel
theorem lk_Mod_130 : Cond.methodLink R_Mod 130 y_Mod_code ∈ zT := zT_of (List.mem_of_getElem? (i := 664) (by decide +kernel)) rfl
theorem im_Mod_code : Cond.instanceMethod y_Mod_code ∈ zT := zT_of (List.mem_of_getElem? (i := 666) (by decide +kernel)) rfl
theorem se_Mod_code : Cond.selects R_Mod y_Mod_code y_Mod_code ∈ zT := zT_of (List.mem_of_getElem? (i := 28) (by decide +kernel)) rfl
theorem cn_Mod_134 : Cond.constant R_Mod 134 (iZ 48000) ∈ zT := zT_of (List.mem_of_getElem? (i := 680) (by decide +kernel)) rfl
theorem d_Mod_code_0 : decode b_Mod_code 0 = .ok (.aload_n 0, 1) := by decide +kernel
theorem d_Mod_code_1 : decode b_Mod_code 1 = .ok (.aload_n 0, 1) := by decide +kernel
theorem d_Mod_code_2 : decode b_Mod_code 2 = .ok (.getfield 7, 3) := by decide +kernel
theorem d_Mod_code_5 : decode b_Mod_code 5 = .ok (.aload_n 0, 1) := by decide +kernel
theorem d_Mod_code_6 : decode b_Mod_code 6 = .ok (.getfield 35, 3) := by decide +kernel
theorem d_Mod_code_9 : decode b_Mod_code 9 = .ok (.iconst 1, 1) := by decide +kernel
theorem d_Mod_code_10 : decode b_Mod_code 10 = .ok (.isub, 1) := by decide +kernel
theorem d_Mod_code_11 : decode b_Mod_code 11 = .ok (.iaload, 1) := by decide +kernel
theorem d_Mod_code_12 : decode b_Mod_code 12 = .ok (.invokevirtual 121, 3) := by decide +kernel
theorem d_Mod_code_15 : decode b_Mod_code 15 = .ok (.istore_n 2, 1) := by decide +kernel
theorem d_Mod_code_16 : decode b_Mod_code 16 = .ok (.iconst 0, 1) := by decide +kernel
theorem d_Mod_code_17 : decode b_Mod_code 17 = .ok (.istore_n 3, 1) := by decide +kernel
theorem d_Mod_code_18 : decode b_Mod_code 18 = .ok (.aload_n 0, 1) := by decide +kernel
theorem d_Mod_code_19 : decode b_Mod_code 19 = .ok (.getfield 35, 3) := by decide +kernel
theorem d_Mod_code_22 : decode b_Mod_code 22 = .ok (.iconst 2, 1) := by decide +kernel
theorem d_Mod_code_23 : decode b_Mod_code 23 = .ok (.isub, 1) := by decide +kernel
theorem d_Mod_code_24 : decode b_Mod_code 24 = .ok (.istore 4, 2) := by decide +kernel
theorem d_Mod_code_26 : decode b_Mod_code 26 = .ok (.iload 4, 2) := by decide +kernel
theorem d_Mod_code_28 : decode b_Mod_code 28 = .ok (.aload_n 0, 1) := by decide +kernel
theorem d_Mod_code_29 : decode b_Mod_code 29 = .ok (.getfield 42, 3) := by decide +kernel
theorem d_Mod_code_32 : decode b_Mod_code 32 = .ok (.if_icmp .lt 68, 3) := by decide +kernel
theorem d_Mod_code_35 : decode b_Mod_code 35 = .ok (.aload_n 0, 1) := by decide +kernel
theorem d_Mod_code_36 : decode b_Mod_code 36 = .ok (.aload_n 0, 1) := by decide +kernel
theorem d_Mod_code_37 : decode b_Mod_code 37 = .ok (.getfield 7, 3) := by decide +kernel
theorem d_Mod_code_40 : decode b_Mod_code 40 = .ok (.iload 4, 2) := by decide +kernel
theorem d_Mod_code_42 : decode b_Mod_code 42 = .ok (.iaload, 1) := by decide +kernel
theorem d_Mod_code_43 : decode b_Mod_code 43 = .ok (.iload_n 2, 1) := by decide +kernel
theorem d_Mod_code_44 : decode b_Mod_code 44 = .ok (.invokevirtual 124, 3) := by decide +kernel
theorem d_Mod_code_47 : decode b_Mod_code 47 = .ok (.istore 5, 2) := by decide +kernel
theorem d_Mod_code_49 : decode b_Mod_code 49 = .ok (.iload_n 1, 1) := by decide +kernel
theorem d_Mod_code_50 : decode b_Mod_code 50 = .ok (.ifCond .eq 21, 3) := by decide +kernel
theorem d_Mod_code_53 : decode b_Mod_code 53 = .ok (.aload_n 0, 1) := by decide +kernel
theorem d_Mod_code_54 : decode b_Mod_code 54 = .ok (.iload_n 2, 1) := by decide +kernel
theorem d_Mod_code_55 : decode b_Mod_code 55 = .ok (.aload_n 0, 1) := by decide +kernel
theorem d_Mod_code_56 : decode b_Mod_code 56 = .ok (.iload 5, 2) := by decide +kernel
theorem d_Mod_code_58 : decode b_Mod_code 58 = .ok (.invokevirtual 118, 3) := by decide +kernel
theorem d_Mod_code_61 : decode b_Mod_code 61 = .ok (.isub, 1) := by decide +kernel
theorem d_Mod_code_62 : decode b_Mod_code 62 = .ok (.aload_n 0, 1) := by decide +kernel
theorem d_Mod_code_63 : decode b_Mod_code 63 = .ok (.iload 5, 2) := by decide +kernel
theorem d_Mod_code_65 : decode b_Mod_code 65 = .ok (.invokevirtual 112, 3) := by decide +kernel
theorem d_Mod_code_68 : decode b_Mod_code 68 = .ok (.invokevirtual 83, 3) := by decide +kernel
theorem d_Mod_code_71 : decode b_Mod_code 71 = .ok (.iload_n 3, 1) := by decide +kernel
theorem d_Mod_code_72 : decode b_Mod_code 72 = .ok (.aload_n 0, 1) := by decide +kernel
theorem d_Mod_code_73 : decode b_Mod_code 73 = .ok (.iload 5, 2) := by decide +kernel
theorem d_Mod_code_75 : decode b_Mod_code 75 = .ok (.invokevirtual 112, 3) := by decide +kernel
theorem d_Mod_code_78 : decode b_Mod_code 78 = .ok (.iadd, 1) := by decide +kernel
theorem d_Mod_code_79 : decode b_Mod_code 79 = .ok (.istore_n 3, 1) := by decide +kernel
theorem d_Mod_code_80 : decode b_Mod_code 80 = .ok (.aload_n 0, 1) := by decide +kernel
theorem d_Mod_code_81 : decode b_Mod_code 81 = .ok (.aload_n 0, 1) := by decide +kernel
theorem d_Mod_code_82 : decode b_Mod_code 82 = .ok (.getfield 7, 3) := by decide +kernel
theorem d_Mod_code_85 : decode b_Mod_code 85 = .ok (.iload 4, 2) := by decide +kernel
theorem d_Mod_code_87 : decode b_Mod_code 87 = .ok (.iaload, 1) := by decide +kernel
theorem d_Mod_code_88 : decode b_Mod_code 88 = .ok (.iload 5, 2) := by decide +kernel
theorem d_Mod_code_90 : decode b_Mod_code 90 = .ok (.invokevirtual 127, 3) := by decide +kernel
theorem d_Mod_code_93 : decode b_Mod_code 93 = .ok (.istore_n 2, 1) := by decide +kernel
theorem d_Mod_code_94 : decode b_Mod_code 94 = .ok (.iinc 4 (-1), 3) := by decide +kernel
theorem d_Mod_code_97 : decode b_Mod_code 97 = .ok (.goto (-71), 3) := by decide +kernel
theorem d_Mod_code_100 : decode b_Mod_code 100 = .ok (.iload_n 1, 1) := by decide +kernel
theorem d_Mod_code_101 : decode b_Mod_code 101 = .ok (.ifCond .eq 18, 3) := by decide +kernel
theorem d_Mod_code_104 : decode b_Mod_code 104 = .ok (.aload_n 0, 1) := by decide +kernel
theorem d_Mod_code_105 : decode b_Mod_code 105 = .ok (.iload_n 2, 1) := by decide +kernel
theorem d_Mod_code_106 : decode b_Mod_code 106 = .ok (.aload_n 0, 1) := by decide +kernel
theorem d_Mod_code_107 : decode b_Mod_code 107 = .ok (.getfield 50, 3) := by decide +kernel
theorem d_Mod_code_110 : decode b_Mod_code 110 = .ok (.invokevirtual 83, 3) := by decide +kernel
theorem d_Mod_code_113 : decode b_Mod_code 113 = .ok (.aload_n 0, 1) := by decide +kernel
theorem d_Mod_code_114 : decode b_Mod_code 114 = .ok (.iconst 1, 1) := by decide +kernel
theorem d_Mod_code_115 : decode b_Mod_code 115 = .ok (.iconst 1, 1) := by decide +kernel
theorem d_Mod_code_116 : decode b_Mod_code 116 = .ok (.invokevirtual 83, 3) := by decide +kernel
theorem d_Mod_code_119 : decode b_Mod_code 119 = .ok (.iload_n 3, 1) := by decide +kernel
theorem d_Mod_code_120 : decode b_Mod_code 120 = .ok (.aload_n 0, 1) := by decide +kernel
theorem d_Mod_code_121 : decode b_Mod_code 121 = .ok (.getfield 50, 3) := by decide +kernel
theorem d_Mod_code_124 : decode b_Mod_code 124 = .ok (.iadd, 1) := by decide +kernel
theorem d_Mod_code_125 : decode b_Mod_code 125 = .ok (.iconst 1, 1) := by decide +kernel
theorem d_Mod_code_126 : decode b_Mod_code 126 = .ok (.iadd, 1) := by decide +kernel
theorem d_Mod_code_127 : decode b_Mod_code 127 = .ok (.ireturn, 1) := by decide +kernel
theorem d_Mod_encode_0 : decode b_Mod_encode 0 = .ok (.aload_n 0, 1) := by decide +kernel
theorem d_Mod_encode_1 : decode b_Mod_encode 1 = .ok (.getfield 50, 3) := by decide +kernel
theorem d_Mod_encode_4 : decode b_Mod_encode 4 = .ok (.ifCond .ne 5, 3) := by decide +kernel
theorem d_Mod_encode_7 : decode b_Mod_encode 7 = .ok (.iconst (-1), 1) := by decide +kernel
theorem d_Mod_encode_8 : decode b_Mod_encode 8 = .ok (.ireturn, 1) := by decide +kernel
theorem d_Mod_encode_9 : decode b_Mod_encode 9 = .ok (.aload_n 0, 1) := by decide +kernel
theorem d_Mod_encode_10 : decode b_Mod_encode 10 = .ok (.getfield 42, 3) := by decide +kernel
theorem d_Mod_encode_13 : decode b_Mod_encode 13 = .ok (.aload_n 0, 1) := by decide +kernel
theorem d_Mod_encode_14 : decode b_Mod_encode 14 = .ok (.getfield 35, 3) := by decide +kernel
theorem d_Mod_encode_17 : decode b_Mod_encode 17 = .ok (.if_icmp .ne 6, 3) := by decide +kernel
theorem d_Mod_encode_20 : decode b_Mod_encode 20 = .ok (.bipush (-2), 2) := by decide +kernel
theorem d_Mod_encode_22 : decode b_Mod_encode 22 = .ok (.ireturn, 1) := by decide +kernel
theorem d_Mod_encode_23 : decode b_Mod_encode 23 = .ok (.aload_n 0, 1) := by decide +kernel
theorem d_Mod_encode_24 : decode b_Mod_encode 24 = .ok (.getfield 42, 3) := by decide +kernel
theorem d_Mod_encode_27 : decode b_Mod_encode 27 = .ok (.istore_n 1, 1) := by decide +kernel
theorem d_Mod_encode_28 : decode b_Mod_encode 28 = .ok (.iload_n 1, 1) := by decide +kernel
theorem d_Mod_encode_29 : decode b_Mod_encode 29 = .ok (.aload_n 0, 1) := by decide +kernel
theorem d_Mod_encode_30 : decode b_Mod_encode 30 = .ok (.getfield 35, 3) := by decide +kernel
theorem d_Mod_encode_33 : decode b_Mod_encode 33 = .ok (.if_icmp .ge 26, 3) := by decide +kernel
theorem d_Mod_encode_36 : decode b_Mod_encode 36 = .ok (.aload_n 0, 1) := by decide +kernel
theorem d_Mod_encode_37 : decode b_Mod_encode 37 = .ok (.getfield 19, 3) := by decide +kernel
theorem d_Mod_encode_40 : decode b_Mod_encode 40 = .ok (.aload_n 0, 1) := by decide +kernel
theorem d_Mod_encode_41 : decode b_Mod_encode 41 = .ok (.getfield 7, 3) := by decide +kernel
theorem d_Mod_encode_44 : decode b_Mod_encode 44 = .ok (.iload_n 1, 1) := by decide +kernel
theorem d_Mod_encode_45 : decode b_Mod_encode 45 = .ok (.iaload, 1) := by decide +kernel
theorem d_Mod_encode_46 : decode b_Mod_encode 46 = .ok (.iaload, 1) := by decide +kernel
theorem d_Mod_encode_47 : decode b_Mod_encode 47 = .ok (.ifCond .ne 6, 3) := by decide +kernel
theorem d_Mod_encode_50 : decode b_Mod_encode 50 = .ok (.bipush (-3), 2) := by decide +kernel
theorem d_Mod_encode_52 : decode b_Mod_encode 52 = .ok (.ireturn, 1) := by decide +kernel
theorem d_Mod_encode_53 : decode b_Mod_encode 53 = .ok (.iinc 1 1, 3) := by decide +kernel
theorem d_Mod_encode_56 : decode b_Mod_encode 56 = .ok (.goto (-28), 3) := by decide +kernel
theorem d_Mod_encode_59 : decode b_Mod_encode 59 = .ok (.aload_n 0, 1) := by decide +kernel
theorem d_Mod_encode_60 : decode b_Mod_encode 60 = .ok (.iconst 0, 1) := by decide +kernel
theorem d_Mod_encode_61 : decode b_Mod_encode 61 = .ok (.invokevirtual 130, 3) := by decide +kernel
theorem d_Mod_encode_64 : decode b_Mod_encode 64 = .ok (.ldc 134, 2) := by decide +kernel
theorem d_Mod_encode_66 : decode b_Mod_encode 66 = .ok (.if_icmp .le 6, 3) := by decide +kernel
theorem d_Mod_encode_69 : decode b_Mod_encode 69 = .ok (.bipush (-4), 2) := by decide +kernel
theorem d_Mod_encode_71 : decode b_Mod_encode 71 = .ok (.ireturn, 1) := by decide +kernel
theorem d_Mod_encode_72 : decode b_Mod_encode 72 = .ok (.aload_n 0, 1) := by decide +kernel
theorem d_Mod_encode_73 : decode b_Mod_encode 73 = .ok (.invokevirtual 87, 3) := by decide +kernel
theorem d_Mod_encode_76 : decode b_Mod_encode 76 = .ok (.aload_n 0, 1) := by decide +kernel
theorem d_Mod_encode_77 : decode b_Mod_encode 77 = .ok (.iconst 1, 1) := by decide +kernel
theorem d_Mod_encode_78 : decode b_Mod_encode 78 = .ok (.invokevirtual 130, 3) := by decide +kernel
theorem d_Mod_encode_81 : decode b_Mod_encode 81 = .ok (.pop, 1) := by decide +kernel
theorem d_Mod_encode_82 : decode b_Mod_encode 82 = .ok (.aload_n 0, 1) := by decide +kernel
theorem d_Mod_encode_83 : decode b_Mod_encode 83 = .ok (.invokevirtual 93, 3) := by decide +kernel
theorem d_Mod_encode_86 : decode b_Mod_encode 86 = .ok (.ireturn, 1) := by decide +kernel
abbrev rm_M_codeF : Room := { frames := 2, cells := 0, slots := 0, locals := 47 }
set_option maxHeartbeats 4000000 in
set_option maxRecDepth 100000 in
theorem c_M_codeF (l : Launch) (D : va_G) (cI cB cZ : ClassId) (r : Nat) (ri : Nat) (ro : Nat) (rc : Nat) (rp : Nat) (rs : Nat) (rd : Nat) (rk : Nat) (rh : Nat) (iL : Int) (go : Int) (oL : Int) (o : Nat) (bP : Int) (bR : Int) (xi : Nat → Int) (xp : Nat → Int) (xs : Nat → Int) (hiL : 0 ≤ iL ∧ iL ≤ 6000) (hgo : 0 ≤ go ∧ go < iL) (hxi : ∀ k, k < 6000 → 0 ≤ xi k ∧ xi k < 256) (hpr : ∀ k, k < 256 → -1 ≤ xp k ∧ xp k ≤ 65536) (hxs : ∀ k, k < 4096 → 0 ≤ xs k ∧ xs k < 256) (ho : 5 ≤ o ∧ o ≤ 12) (hsum : cum xp 256 = 2 ^ o) (hcn : ∀ v : Nat, v < 256 → cntS xs v (2 ^ o) = wgt (xp v)) (hwt : ∀ k : Nat, go ≤ (k : Int) → (k : Int) < iL → xp (xi k).toNat ≠ 0) : Met l y_Mod_code (.code y_Mod_code b_Mod_code 6 (some .int) :: zT) rm_M_codeF (zRc D classes (TY cI cB cZ) [(r, .inr (4, [.ref ri, .int (iZ iL), .int (iZ go), .ref ro, .int (iZ oL), .ref rc, .int (iZ (o : Int)), .ref rp, .ref rs, .ref rd, .ref rk, .ref rh, .int (iZ bP), .int (iZ bR)])), (ri, .inl (cI, 6000, .inl (zA xi))), (rp, .inl (cI, 256, .inl (zA xp))), (rs, .inl (cI, 4096, .inl (zA xs)))] [.ref r, .int (iZ 0)]) (zSi (fun z => z = ((ecB xp xs o xi (iL - 1).toNat (iL - 1 - go).toNat) : Int))) 0 0 (fun _ => False) := by
  refine z_ofr (by decide) (Nat.le_of_ble_eq_true rfl) (Or.inl rfl) ?_
  intro p e s m args below meth c Q E jP jK jret ls jl
  obtain ⟨jx, jb, jrt, jml, jown, jts, jlk⟩ := E
  have jown : s.vm.findClass R_Mod = some m.cls := jown
  have hp12 := p2_le ho.2
  have hp0 := p2_pos o
  have hps := p2_s o
  have hbb : ∀ k : Nat, go.toNat ≤ k → k ≤ (iL - 1).toNat → 0 ≤ xi k ∧ xi k < 256 ∧ xp (xi k).toNat ≠ 0 := fun k q1 q2 => ⟨(hxi k (by omega)).1, (hxi k (by omega)).2, hwt k (by omega) (by omega)⟩
  have jl : lv_has ls 6 [(0, .ref r), (1, .int (iZ 0))] := jl
  refine lv_aload_n jx jb d_Mod_code_0 rfl (lv_at jl 0 rfl) ?_
  refine lv_aload_n jx jb d_Mod_code_1 rfl (lv_at jl 0 rfl) ?_
  refine va_get (D := D) (ci := 4) (v := .ref ri) (C := R_Mod) (T := F_Mod) (N := 14) jx jb jts i_Mod jown jK.1 jP 0 rfl rfl 0 (by decide) (jts _ fl_Mod_7) (fun _ h9 => h9) rfl d_Mod_code_2 ?_
  refine lv_aload_n jx jb d_Mod_code_5 rfl (lv_at jl 0 rfl) ?_
  refine va_get (D := D) (ci := 4) (v := .int (iZ iL)) (C := R_Mod) (T := F_Mod) (N := 14) jx jb jts i_Mod jown jK.1 jP 0 rfl rfl 1 (by decide) (jts _ fl_Mod_35) (fun _ h9 => h9) rfl d_Mod_code_6 ?_
  refine lv_iconst (v := iZ 1) jx jb d_Mod_code_9 rfl ?_
  refine z_isub jx jb d_Mod_code_10 ?_
  refine z_iald jx jb jK.1 jP 1 0 rfl rfl ((iL - 1).toNat) (by omega) d_Mod_code_11 ?_
  have hxa := hxi (iL - 1).toNat (by omega)
  have hpa := hpr (xi (iL - 1).toNat).toNat (by omega)
  have hwa := wgt_b hpa
  have hqa := wgt_z hpa.1
  have hnza : wgt (xp (xi (iL - 1).toNat).toNat) ≠ 0 := fun q => hwt (iL - 1).toNat (by omega) (by omega) (hqa.mp q)
  have hcfa := cum_fit hpr (y := (xi (iL - 1).toNat).toNat) (by omega)
  have hcla := cum_lo hpr (b := (xi (iL - 1).toNat).toNat) (by omega)
  have hcta := hcn (xi (iL - 1).toNat).toNat (by omega)
  rw [show (((xi (iL - 1).toNat).toNat : Nat) : Int) = xi (iL - 1).toNat by omega] at hcta
  refine z_backr (va_runV (As := [.int (iZ (xi ((iL - 1).toNat)))]) (rest := []) ⟨jx, jb, jml, jown, jts⟩ (c_M_lowestCell l D cI cB cZ r ri ro rc rp rs rd rk rh iL go oL o bP bR xs (xi ((iL - 1).toNat)) (ho.2) (by first | assumption | omega) (by omega) (by omega)) (zc_V 1 jts cd_Mod_lowestCell lk_Mod_121 im_Mod_lowestCell se_Mod_lowestCell in_Mod hd_Mod_lowestCell ⟨Nat.le_of_ble_eq_true rfl, Nat.le_of_ble_eq_true rfl⟩ rfl rfl) (z_preVR jK jP [0, 3] rfl rfl rfl) rfl rfl jl.1 rfl (lv_room (Nat.le_of_ble_eq_true rfl)) d_Mod_code_12 ⟨Nat.le_of_ble_eq_true rfl, Nat.le_of_ble_eq_true rfl⟩) (fun z12 hz12 => ?_)
  obtain ⟨k12, rfl, hk12, hs12, hq12⟩ := hz12
  refine z_top ((ecS xp xs o xi (iL - 1).toNat 0).1 : Int) (ec_c0 hk12 hs12 hq12) ?_
  refine lv_istore_n (lv' := [(2, .int (iZ ((ecS xp xs o xi (iL - 1).toNat 0).1 : Int))), (0, .ref r), (1, .int (iZ 0))]) jx jb d_Mod_code_15 rfl jl (by decide) rfl (fun ls jl => ?_)
  refine lv_iconst (v := iZ 0) jx jb d_Mod_code_16 rfl ?_
  refine z_top ((ecS xp xs o xi (iL - 1).toNat 0).2.2 : Int) (rfl) ?_
  refine lv_istore_n (lv' := [(3, .int (iZ ((ecS xp xs o xi (iL - 1).toNat 0).2.2 : Int))), (2, .int (iZ ((ecS xp xs o xi (iL - 1).toNat 0).1 : Int))), (0, .ref r), (1, .int (iZ 0))]) jx jb d_Mod_code_17 rfl jl (by decide) rfl (fun ls jl => ?_)
  refine lv_aload_n jx jb d_Mod_code_18 rfl (lv_at jl 2 rfl) ?_
  refine va_get (D := D) (ci := 4) (v := .int (iZ iL)) (C := R_Mod) (T := F_Mod) (N := 14) jx jb jts i_Mod jown jK.1 jP 0 rfl rfl 1 (by decide) (jts _ fl_Mod_35) (fun _ h9 => h9) rfl d_Mod_code_19 ?_
  refine lv_iconst (v := iZ 2) jx jb d_Mod_code_22 rfl ?_
  refine z_isub jx jb d_Mod_code_23 ?_
  refine z_top (iL - 2 - ((0 : Nat) : Int)) (by omega) ?_
  refine lv_istore (lv' := [(4, .int (iZ (iL - 2 - ((0 : Nat) : Int)))), (3, .int (iZ ((ecS xp xs o xi (iL - 1).toNat 0).2.2 : Int))), (2, .int (iZ ((ecS xp xs o xi (iL - 1).toNat 0).1 : Int))), (0, .ref r), (1, .int (iZ 0))]) jx jb d_Mod_code_24 jl (by decide) rfl (fun ls jl => ?_)
  have hloop26 : ∀ (nF : Nat) (j : Nat), (iL - 1 - go).toNat - j < nF → ((j : Int) ≤ iL - 1 - go) → ∀ ls : Array Slot, lv_has ls 6 [(0, .ref r), (1, .int (iZ 0)), (2, .int (iZ ((ecS xp xs o xi (iL - 1).toNat j).1 : Int))), (3, .int (iZ ((ecS xp xs o xi (iL - 1).toNat j).2.2 : Int))), (4, .int (iZ (iL - 2 - (j : Int))))] → W p l e rm_M_codeF s m args below meth c s.heap [] 0 0 Q (F0 m 26 ls []) := by
    intro nF
    induction nF with
    | zero => intro j hm; exact absurd hm (Nat.not_lt_zero _)
    | succ nF ih26 =>
      intro j hm hj ls jl
      have hes := ecS_ok (b := xi) (hi := (iL - 1).toNat) (a := go.toNat) (j := j) ho hpr hsum hcn hbb (by omega)
      refine lv_iload jx jb d_Mod_code_26 (lv_at jl 4 rfl) ?_
      refine lv_aload_n jx jb d_Mod_code_28 rfl (lv_at jl 0 rfl) ?_
      refine va_get (D := D) (ci := 4) (v := .int (iZ go)) (C := R_Mod) (T := F_Mod) (N := 14) jx jb jts i_Mod jown jK.1 jP 0 rfl rfl 2 (by decide) (jts _ fl_Mod_42) (fun _ h9 => h9) rfl d_Mod_code_29 ?_
      refine z_icmp_lt (tgt := 100) jx jb d_Mod_code_32 (by decide) ⟨⟨by omega, by omega⟩, ⟨by omega, by omega⟩⟩ (fun hc32 => ?_) (fun hc32 => ?_)
      ·
        refine lv_iload_n jx jb d_Mod_code_100 rfl (lv_at jl 1 rfl) ?_
        refine z_if_eq (tgt := 119) jx jb d_Mod_code_101 (by decide) ⟨by decide, by decide⟩ (fun hc101 => ?_) (fun hc101 => ?_)
        ·
          refine lv_iload_n jx jb d_Mod_code_119 rfl (lv_at jl 3 rfl) ?_
          refine lv_aload_n jx jb d_Mod_code_120 rfl (lv_at jl 0 rfl) ?_
          refine va_get (D := D) (ci := 4) (v := .int (iZ (o : Int))) (C := R_Mod) (T := F_Mod) (N := 14) jx jb jts i_Mod jown jK.1 jP 0 rfl rfl 6 (by decide) (jts _ fl_Mod_50) (fun _ h9 => h9) rfl d_Mod_code_121 ?_
          refine z_iadd jx jb d_Mod_code_124 ?_
          refine lv_iconst (v := iZ 1) jx jb d_Mod_code_125 rfl ?_
          refine z_iadd jx jb d_Mod_code_126 ?_
          obtain rfl : j = (iL - 1 - go).toNat := by omega
          exact jret _ _ _ (Or.inl rfl) (by unfold ecB; omega) d_Mod_code_127
        ·
          exact absurd hc101 (by decide)
      ·
        refine lv_aload_n jx jb d_Mod_code_35 rfl (lv_at jl 0 rfl) ?_
        refine lv_aload_n jx jb d_Mod_code_36 rfl (lv_at jl 0 rfl) ?_
        refine va_get (D := D) (ci := 4) (v := .ref ri) (C := R_Mod) (T := F_Mod) (N := 14) jx jb jts i_Mod jown jK.1 jP 0 rfl rfl 0 (by decide) (jts _ fl_Mod_7) (fun _ h9 => h9) rfl d_Mod_code_37 ?_
        refine lv_iload jx jb d_Mod_code_40 (lv_at jl 4 rfl) ?_
        have hxb := hxi ((iL - 1).toNat - (j + 1)) (by omega)
        have hpb := hpr (xi ((iL - 1).toNat - (j + 1))).toNat (by omega)
        have hwb := wgt_b hpb
        have hqb := wgt_z hpb.1
        have hnzb : wgt (xp (xi ((iL - 1).toNat - (j + 1))).toNat) ≠ 0 := fun q => hwt ((iL - 1).toNat - (j + 1)) (by omega) (by omega) (hqb.mp q)
        have hcfb := cum_fit hpr (y := (xi ((iL - 1).toNat - (j + 1))).toNat) (by omega)
        have hclb := cum_lo hpr (b := (xi ((iL - 1).toNat - (j + 1))).toNat) (by omega)
        have hctb := hcn (xi ((iL - 1).toNat - (j + 1))).toNat (by omega)
        rw [show (((xi ((iL - 1).toNat - (j + 1))).toNat : Nat) : Int) = xi ((iL - 1).toNat - (j + 1)) by omega] at hctb
        refine z_iald jx jb jK.1 jP 1 0 rfl rfl ((iL - 1).toNat - (j + 1)) (by omega) d_Mod_code_42 ?_
        refine lv_iload_n jx jb d_Mod_code_43 rfl (lv_at jl 2 rfl) ?_
        refine z_backr (va_runV (As := [.int (iZ (xi ((iL - 1).toNat - (j + 1)))), .int (iZ ((ecS xp xs o xi (iL - 1).toNat j).1 : Int))]) (rest := []) ⟨jx, jb, jml, jown, jts⟩ (c_M_numberFor l D cI cB cZ r ri ro rc rp rs rd rk rh iL go oL o bP bR xp (xi ((iL - 1).toNat - (j + 1))) ((ecS xp xs o xi (iL - 1).toNat j).1 : Int) (ho.2) (by first | assumption | omega) (by omega) (by omega) (by omega)) (zc_V 2 jts cd_Mod_numberFor lk_Mod_124 im_Mod_numberFor se_Mod_numberFor in_Mod hd_Mod_numberFor ⟨Nat.le_of_ble_eq_true rfl, Nat.le_of_ble_eq_true rfl⟩ rfl rfl) (z_preVR jK jP [0, 2] rfl rfl rfl) rfl rfl jl.1 rfl (lv_room (Nat.le_of_ble_eq_true rfl)) d_Mod_code_44 ⟨Nat.le_of_ble_eq_true rfl, Nat.le_of_ble_eq_true rfl⟩) (fun z44 hz44 => ?_)
        obtain ⟨n44, hn44, rfl, hl44, hh44⟩ := hz44
        have hen := enN_is (N := o + 1) (show 0 ≤ (((ecS xp xs o xi (iL - 1).toNat j).1 : Int) + 2 ^ o) by omega) ⟨hl44, hh44⟩ (by omega)
        have hzd := zlog_div (wh := (((ecS xp xs o xi (iL - 1).toNat j).1 : Int) + 2 ^ o)) (o := o) (b := n44) (by omega) (by omega) hn44
        have hwd := wh_div (wh := (((ecS xp xs o xi (iL - 1).toNat j).1 : Int) + 2 ^ o)) (b := n44) (by omega)
        have hb1 := ec_b1 hen
        have hv1 := ec_v1 hen
        refine lv_istore (lv' := [(5, .int (iZ ((((ecS xp xs o xi (iL - 1).toNat j).1 : Int) + 2 ^ o) / 2 ^ n44))), (0, .ref r), (1, .int (iZ 0)), (2, .int (iZ ((ecS xp xs o xi (iL - 1).toNat j).1 : Int))), (3, .int (iZ ((ecS xp xs o xi (iL - 1).toNat j).2.2 : Int))), (4, .int (iZ (iL - 2 - (j : Int))))]) jx jb d_Mod_code_47 jl (by decide) rfl (fun ls jl => ?_)
        refine lv_iload_n jx jb d_Mod_code_49 rfl (lv_at jl 2 rfl) ?_
        refine z_if_eq (tgt := 71) jx jb d_Mod_code_50 (by decide) ⟨by decide, by decide⟩ (fun hc50 => ?_) (fun hc50 => ?_)
        ·
          refine lv_iload_n jx jb d_Mod_code_71 rfl (lv_at jl 4 rfl) ?_
          refine lv_aload_n jx jb d_Mod_code_72 rfl (lv_at jl 1 rfl) ?_
          refine lv_iload jx jb d_Mod_code_73 (lv_at jl 0 rfl) ?_
          refine z_backe (va_runV (As := [.int (iZ ((((ecS xp xs o xi (iL - 1).toNat j).1 : Int) + 2 ^ o) / 2 ^ n44))]) (rest := [.int (iZ ((ecS xp xs o xi (iL - 1).toNat j).2.2 : Int))]) ⟨jx, jb, jml, jown, jts⟩ (c_M_bitsOf l D cI cB cZ r ri ro rc rp rs rd rk rh iL go oL o bP bR ((((ecS xp xs o xi (iL - 1).toNat j).1 : Int) + 2 ^ o) / 2 ^ n44) (ho.2) (by omega)) (zc_V 1 jts cd_Mod_bitsOf lk_Mod_112 im_Mod_bitsOf se_Mod_bitsOf in_Mod hd_Mod_bitsOf ⟨Nat.le_of_ble_eq_true rfl, Nat.le_of_ble_eq_true rfl⟩ rfl rfl) (z_preVR jK jP [0] rfl rfl rfl) rfl rfl jl.1 rfl (lv_room (Nat.le_of_ble_eq_true rfl)) d_Mod_code_75 ⟨Nat.le_of_ble_eq_true rfl, Nat.le_of_ble_eq_true rfl⟩) ?_
          refine z_top (n44 : Int) (by rw [hzd]; omega) ?_
          refine z_iadd jx jb d_Mod_code_78 ?_
          refine z_top ((ecS xp xs o xi (iL - 1).toNat (j + 1)).2.2 : Int) (by rw [hb1]; exact (Int.natCast_add _ _).symm) ?_
          refine lv_istore_n (lv' := [(3, .int (iZ ((ecS xp xs o xi (iL - 1).toNat (j + 1)).2.2 : Int))), (5, .int (iZ ((((ecS xp xs o xi (iL - 1).toNat j).1 : Int) + 2 ^ o) / 2 ^ n44))), (0, .ref r), (1, .int (iZ 0)), (2, .int (iZ ((ecS xp xs o xi (iL - 1).toNat j).1 : Int))), (4, .int (iZ (iL - 2 - (j : Int))))]) jx jb d_Mod_code_79 rfl jl (by decide) rfl (fun ls jl => ?_)
          refine lv_aload_n jx jb d_Mod_code_80 rfl (lv_at jl 2 rfl) ?_
          refine lv_aload_n jx jb d_Mod_code_81 rfl (lv_at jl 2 rfl) ?_
          refine va_get (D := D) (ci := 4) (v := .ref ri) (C := R_Mod) (T := F_Mod) (N := 14) jx jb jts i_Mod jown jK.1 jP 0 rfl rfl 0 (by decide) (jts _ fl_Mod_7) (fun _ h9 => h9) rfl d_Mod_code_82 ?_
          refine lv_iload jx jb d_Mod_code_85 (lv_at jl 5 rfl) ?_
          refine z_iald jx jb jK.1 jP 1 0 rfl rfl ((iL - 1).toNat - (j + 1)) (by omega) d_Mod_code_87 ?_
          refine lv_iload jx jb d_Mod_code_88 (lv_at jl 1 rfl) ?_
          refine z_backr (va_runV (As := [.int (iZ (xi ((iL - 1).toNat - (j + 1)))), .int (iZ ((((ecS xp xs o xi (iL - 1).toNat j).1 : Int) + 2 ^ o) / 2 ^ n44))]) (rest := []) ⟨jx, jb, jml, jown, jts⟩ (c_M_cellOf l D cI cB cZ r ri ro rc rp rs rd rk rh iL go oL o bP bR xp xs (xi ((iL - 1).toNat - (j + 1))) ((((ecS xp xs o xi (iL - 1).toNat j).1 : Int) + 2 ^ o) / 2 ^ n44) (ho.2) (by first | assumption | omega) (by first | assumption | omega) (by omega) (by omega)) (zc_V 2 jts cd_Mod_cellOf lk_Mod_127 im_Mod_cellOf se_Mod_cellOf in_Mod hd_Mod_cellOf ⟨Nat.le_of_ble_eq_true rfl, Nat.le_of_ble_eq_true rfl⟩ rfl rfl) (z_preVR jK jP [0, 2, 3] rfl rfl rfl) rfl rfl jl.1 rfl (lv_room (Nat.le_of_ble_eq_true rfl)) d_Mod_code_90 ⟨Nat.le_of_ble_eq_true rfl, Nat.le_of_ble_eq_true rfl⟩) (fun z90 hz90 => ?_)
          obtain ⟨k90, rfl, hk90, hs90, hq90⟩ := hz90
          refine z_top ((ecS xp xs o xi (iL - 1).toNat (j + 1)).1 : Int) (ec_c1 hk90 hen hs90 hq90) ?_
          refine lv_istore_n (lv' := [(2, .int (iZ ((ecS xp xs o xi (iL - 1).toNat (j + 1)).1 : Int))), (3, .int (iZ ((ecS xp xs o xi (iL - 1).toNat (j + 1)).2.2 : Int))), (5, .int (iZ ((((ecS xp xs o xi (iL - 1).toNat j).1 : Int) + 2 ^ o) / 2 ^ n44))), (0, .ref r), (1, .int (iZ 0)), (4, .int (iZ (iL - 2 - (j : Int))))]) jx jb d_Mod_code_93 rfl jl (by decide) rfl (fun ls jl => ?_)
          refine lv_iinc (v := iZ (iL - 2 - ((j + 1 : Nat) : Int))) (lv' := [(4, .int (iZ (iL - 2 - ((j + 1 : Nat) : Int)))), (2, .int (iZ ((ecS xp xs o xi (iL - 1).toNat (j + 1)).1 : Int))), (3, .int (iZ ((ecS xp xs o xi (iL - 1).toNat (j + 1)).2.2 : Int))), (5, .int (iZ ((((ecS xp xs o xi (iL - 1).toNat j).1 : Int) + 2 ^ o) / 2 ^ n44))), (0, .ref r), (1, .int (iZ 0))]) jx jb d_Mod_code_94 jl (k := 5) rfl (by rw [show (iL - 2 - ((j + 1 : Nat) : Int)) = (iL - 2 - (j : Int)) + (-1) from by omega]; exact iZ_add _ _) (by decide) rfl (fun ls jl => ?_)
          refine lv_goto (tgt := 26) jx jb d_Mod_code_97 (by decide) ?_
          exact ih26 (j + 1) (by omega) (by first | assumption | omega) _ (lv_sub jl [4, 5, 1, 2, 0] rfl)
        ·
          exact absurd hc50 (by decide)
  exact hloop26 (((iL - 1 - go).toNat - 0) + 1) 0 (Nat.lt_succ_self _) (by first | assumption | omega) _ (lv_sub jl [3, 4, 2, 1, 0] rfl)
abbrev rm_M_codeT : Room := { frames := 2, cells := 0, slots := 0, locals := 47 }
set_option maxHeartbeats 4000000 in
set_option maxRecDepth 100000 in
theorem c_M_codeT (l : Launch) (D : va_G) (cI cB cZ : ClassId) (sz : Nat) (r : Nat) (ri : Nat) (ro : Nat) (rc : Nat) (rp : Nat) (rs : Nat) (rd : Nat) (rk : Nat) (rh : Nat) (iL : Int) (go : Int) (oL : Int) (o : Nat) (bR : Int) (xi : Nat → Int) (xp : Nat → Int) (xs : Nat → Int) (xo : Nat → Int) (hiL : 0 ≤ iL ∧ iL ≤ 6000) (hgo : 0 ≤ go ∧ go < iL) (hxi : ∀ k, k < 6000 → 0 ≤ xi k ∧ xi k < 256) (hpr : ∀ k, k < 256 → -1 ≤ xp k ∧ xp k ≤ 65536) (hxs : ∀ k, k < 4096 → 0 ≤ xs k ∧ xs k < 256) (ho : 5 ≤ o ∧ o ≤ 12) (hsum : cum xp 256 = 2 ^ o) (hcn : ∀ v : Nat, v < 256 → cntS xs v (2 ^ o) = wgt (xp v)) (hwt : ∀ k : Nat, go ≤ (k : Int) → (k : Int) < iL → xp (xi k).toNat ≠ 0) (hO : mO 0 0 xo) (hcap : (ecB xp xs o xi (iL - 1).toNat (iL - 1 - go).toNat) ≤ 48000) : Met l y_Mod_code (.code y_Mod_code b_Mod_code 6 (some .int) :: zT) rm_M_codeT (zPc D classes (TY cI cB cZ) [(r, .inr (4, [.ref ri, .int (iZ iL), .int (iZ go), .ref ro, .int (iZ oL), .ref rc, .int (iZ (o : Int)), .ref rp, .ref rs, .ref rd, .ref rk, .ref rh, .int (iZ ((0 : Nat) : Int)), .int (iZ bR)])), (ri, .inl (cI, 6000, .inl (zA xi))), (rp, .inl (cI, 256, .inl (zA xp))), (rs, .inl (cI, 4096, .inl (zA xs))), (ro, .inl (cI, 6000, .inl (zA xo)))] sz [.ref r, .int (iZ 1)]) (zFi (S := Nat → Int) D classes (fun z u => z = ((ecB xp xs o xi (iL - 1).toNat (iL - 1 - go).toNat) : Int) ∧ mO (ecV xp xs o xi (iL - 1).toNat (iL - 1 - go).toNat) (ecB xp xs o xi (iL - 1).toNat (iL - 1 - go).toNat) u) (fun u => [(r, .inr (4, [.ref ri, .int (iZ iL), .int (iZ go), .ref ro, .int (iZ oL), .ref rc, .int (iZ (o : Int)), .ref rp, .ref rs, .ref rd, .ref rk, .ref rh, .int (iZ ((ecB xp xs o xi (iL - 1).toNat (iL - 1 - go).toNat) : Int)), .int (iZ bR)])), (ri, .inl (cI, 6000, .inl (zA xi))), (rp, .inl (cI, 256, .inl (zA xp))), (rs, .inl (cI, 4096, .inl (zA xs))), (ro, .inl (cI, 6000, .inl (zA u)))]) (va_A [(r, .inr (4, [.ref ri, .int (iZ iL), .int (iZ go), .ref ro, .int (iZ oL), .ref rc, .int (iZ (o : Int)), .ref rp, .ref rs, .ref rd, .ref rk, .ref rh, .int (iZ ((0 : Nat) : Int)), .int (iZ bR)])), (ri, .inl (cI, 6000, .inl (zA xi))), (rp, .inl (cI, 256, .inl (zA xp))), (rs, .inl (cI, 4096, .inl (zA xs))), (ro, .inl (cI, 6000, .inl (zA xo)))] sz)) 0 0 (va_A [(r, .inr (4, [.ref ri, .int (iZ iL), .int (iZ go), .ref ro, .int (iZ oL), .ref rc, .int (iZ (o : Int)), .ref rp, .ref rs, .ref rd, .ref rk, .ref rh, .int (iZ ((0 : Nat) : Int)), .int (iZ bR)])), (ri, .inl (cI, 6000, .inl (zA xi))), (rp, .inl (cI, 256, .inl (zA xp))), (rs, .inl (cI, 4096, .inl (zA xs))), (ro, .inl (cI, 6000, .inl (zA xo)))] sz) := by
  refine z_ofi (by decide) (Nat.le_of_ble_eq_true rfl) (Or.inl rfl) ?_
  intro p e s m args below meth c A Q E jA jK jret H locs jP jD jS ls jl
  obtain ⟨jx, jb, jrt, jml, jown, jts, jlk⟩ := E
  have jown : s.vm.findClass R_Mod = some m.cls := jown
  have hp12 := p2_le ho.2
  have hp0 := p2_pos o
  have hps := p2_s o
  have hbb : ∀ k : Nat, go.toNat ≤ k → k ≤ (iL - 1).toNat → 0 ≤ xi k ∧ xi k < 256 ∧ xp (xi k).toNat ≠ 0 := fun k q1 q2 => ⟨(hxi k (by omega)).1, (hxi k (by omega)).2, hwt k (by omega) (by omega)⟩
  have jl : lv_has ls 6 [(0, .ref r), (1, .int (iZ 1))] := jl
  refine lv_aload_n jx jb d_Mod_code_0 rfl (lv_at jl 0 rfl) ?_
  refine lv_aload_n jx jb d_Mod_code_1 rfl (lv_at jl 0 rfl) ?_
  refine va_get (D := D) (ci := 4) (v := .ref ri) (C := R_Mod) (T := F_Mod) (N := 14) jx jb jts i_Mod jown jK.1 jP 0 rfl rfl 0 (by decide) (jts _ fl_Mod_7) (fun _ h9 => h9) rfl d_Mod_code_2 ?_
  refine lv_aload_n jx jb d_Mod_code_5 rfl (lv_at jl 0 rfl) ?_
  refine va_get (D := D) (ci := 4) (v := .int (iZ iL)) (C := R_Mod) (T := F_Mod) (N := 14) jx jb jts i_Mod jown jK.1 jP 0 rfl rfl 1 (by decide) (jts _ fl_Mod_35) (fun _ h9 => h9) rfl d_Mod_code_6 ?_
  refine lv_iconst (v := iZ 1) jx jb d_Mod_code_9 rfl ?_
  refine z_isub jx jb d_Mod_code_10 ?_
  refine z_iald jx jb jK.1 jP 1 0 rfl rfl ((iL - 1).toNat) (by omega) d_Mod_code_11 ?_
  have hxa := hxi (iL - 1).toNat (by omega)
  have hpa := hpr (xi (iL - 1).toNat).toNat (by omega)
  have hwa := wgt_b hpa
  have hqa := wgt_z hpa.1
  have hnza : wgt (xp (xi (iL - 1).toNat).toNat) ≠ 0 := fun q => hwt (iL - 1).toNat (by omega) (by omega) (hqa.mp q)
  have hcfa := cum_fit hpr (y := (xi (iL - 1).toNat).toNat) (by omega)
  have hcla := cum_lo hpr (b := (xi (iL - 1).toNat).toNat) (by omega)
  have hcta := hcn (xi (iL - 1).toNat).toNat (by omega)
  rw [show (((xi (iL - 1).toNat).toNat : Nat) : Int) = xi (iL - 1).toNat by omega] at hcta
  refine z_backr (va_runV (As := [.int (iZ (xi ((iL - 1).toNat)))]) (rest := []) ⟨jx, jb, jml, jown, jts⟩ (c_M_lowestCell l D cI cB cZ r ri ro rc rp rs rd rk rh iL go oL o ((0 : Nat) : Int) bR xs (xi ((iL - 1).toNat)) (ho.2) (by first | assumption | omega) (by omega) (by omega)) (zc_V 1 jts cd_Mod_lowestCell lk_Mod_121 im_Mod_lowestCell se_Mod_lowestCell in_Mod hd_Mod_lowestCell ⟨Nat.le_of_ble_eq_true rfl, Nat.le_of_ble_eq_true rfl⟩ rfl rfl) (z_preVR jK jP [0, 3] rfl rfl rfl) rfl rfl jl.1 rfl (lv_room (Nat.le_of_ble_eq_true rfl)) d_Mod_code_12 ⟨Nat.le_of_ble_eq_true rfl, Nat.le_of_ble_eq_true rfl⟩) (fun z12 hz12 => ?_)
  obtain ⟨k12, rfl, hk12, hs12, hq12⟩ := hz12
  refine z_top ((ecS xp xs o xi (iL - 1).toNat 0).1 : Int) (ec_c0 hk12 hs12 hq12) ?_
  refine lv_istore_n (lv' := [(2, .int (iZ ((ecS xp xs o xi (iL - 1).toNat 0).1 : Int))), (0, .ref r), (1, .int (iZ 1))]) jx jb d_Mod_code_15 rfl jl (by decide) rfl (fun ls jl => ?_)
  refine lv_iconst (v := iZ 0) jx jb d_Mod_code_16 rfl ?_
  refine z_top ((ecS xp xs o xi (iL - 1).toNat 0).2.2 : Int) (rfl) ?_
  refine lv_istore_n (lv' := [(3, .int (iZ ((ecS xp xs o xi (iL - 1).toNat 0).2.2 : Int))), (2, .int (iZ ((ecS xp xs o xi (iL - 1).toNat 0).1 : Int))), (0, .ref r), (1, .int (iZ 1))]) jx jb d_Mod_code_17 rfl jl (by decide) rfl (fun ls jl => ?_)
  refine lv_aload_n jx jb d_Mod_code_18 rfl (lv_at jl 2 rfl) ?_
  refine va_get (D := D) (ci := 4) (v := .int (iZ iL)) (C := R_Mod) (T := F_Mod) (N := 14) jx jb jts i_Mod jown jK.1 jP 0 rfl rfl 1 (by decide) (jts _ fl_Mod_35) (fun _ h9 => h9) rfl d_Mod_code_19 ?_
  refine lv_iconst (v := iZ 2) jx jb d_Mod_code_22 rfl ?_
  refine z_isub jx jb d_Mod_code_23 ?_
  refine z_top (iL - 2 - ((0 : Nat) : Int)) (by omega) ?_
  refine lv_istore (lv' := [(4, .int (iZ (iL - 2 - ((0 : Nat) : Int)))), (3, .int (iZ ((ecS xp xs o xi (iL - 1).toNat 0).2.2 : Int))), (2, .int (iZ ((ecS xp xs o xi (iL - 1).toNat 0).1 : Int))), (0, .ref r), (1, .int (iZ 1))]) jx jb d_Mod_code_24 jl (by decide) rfl (fun ls jl => ?_)
  have hloop26 : ∀ (nF : Nat) (j : Nat) (x2 : Nat → Int), (iL - 1 - go).toNat - j < nF → ((j : Int) ≤ iL - 1 - go) → (mO (ecS xp xs o xi (iL - 1).toNat j).2.1 (ecS xp xs o xi (iL - 1).toNat j).2.2 x2) → ∀ (H : Heap) (locs : List Loc), va_P D classes [(r, .inr (4, [.ref ri, .int (iZ iL), .int (iZ go), .ref ro, .int (iZ oL), .ref rc, .int (iZ (o : Int)), .ref rp, .ref rs, .ref rd, .ref rk, .ref rh, .int (iZ ((ecS xp xs o xi (iL - 1).toNat j).2.2 : Int)), .int (iZ bR)])), (ri, .inl (cI, 6000, .inl (zA xi))), (rp, .inl (cI, 256, .inl (zA xp))), (rs, .inl (cI, 4096, .inl (zA xs))), (ro, .inl (cI, 6000, .inl (zA x2)))] H → va_D A [(r, .inr (4, [.ref ri, .int (iZ iL), .int (iZ go), .ref ro, .int (iZ oL), .ref rc, .int (iZ (o : Int)), .ref rp, .ref rs, .ref rd, .ref rk, .ref rh, .int (iZ ((ecS xp xs o xi (iL - 1).toNat j).2.2 : Int)), .int (iZ bR)])), (ri, .inl (cI, 6000, .inl (zA xi))), (rp, .inl (cI, 256, .inl (zA xp))), (rs, .inl (cI, 4096, .inl (zA xs))), (ro, .inl (cI, 6000, .inl (zA x2)))] → va_S A s.heap H locs → ∀ ls : Array Slot, lv_has ls 6 [(0, .ref r), (1, .int (iZ 1)), (2, .int (iZ ((ecS xp xs o xi (iL - 1).toNat j).1 : Int))), (3, .int (iZ ((ecS xp xs o xi (iL - 1).toNat j).2.2 : Int))), (4, .int (iZ (iL - 2 - (j : Int))))] → W p l e rm_M_codeT s m args below meth c H locs 0 0 Q (F0 m 26 ls []) := by
    intro nF
    induction nF with
    | zero => intro j x2 hm; exact absurd hm (Nat.not_lt_zero _)
    | succ nF ih26 =>
      intro j x2 hm hj h2 H locs jP jD jS ls jl
      have hes := ecS_ok (b := xi) (hi := (iL - 1).toNat) (a := go.toNat) (j := j) ho hpr hsum hcn hbb (by omega)
      refine lv_iload jx jb d_Mod_code_26 (lv_at jl 4 rfl) ?_
      refine lv_aload_n jx jb d_Mod_code_28 rfl (lv_at jl 0 rfl) ?_
      refine va_get (D := D) (ci := 4) (v := .int (iZ go)) (C := R_Mod) (T := F_Mod) (N := 14) jx jb jts i_Mod jown jK.1 jP 0 rfl rfl 2 (by decide) (jts _ fl_Mod_42) (fun _ h9 => h9) rfl d_Mod_code_29 ?_
      refine z_icmp_lt (tgt := 100) jx jb d_Mod_code_32 (by decide) ⟨⟨by omega, by omega⟩, ⟨by omega, by omega⟩⟩ (fun hc32 => ?_) (fun hc32 => ?_)
      ·
        refine lv_iload_n jx jb d_Mod_code_100 rfl (lv_at jl 1 rfl) ?_
        refine z_if_eq (tgt := 119) jx jb d_Mod_code_101 (by decide) ⟨by decide, by decide⟩ (fun hc101 => ?_) (fun hc101 => ?_)
        ·
          exact absurd hc101 (by decide)
        ·
          have hjm : j = (iL - 1 - go).toNat := by omega
          have hcap2 : (ecS xp xs o xi (iL - 1).toNat j).2.2 + o + 1 ≤ 48000 := by rw [hjm]; exact hcap
          refine lv_aload_n jx jb d_Mod_code_104 rfl (lv_at jl 0 rfl) ?_
          refine lv_iload_n jx jb d_Mod_code_105 rfl (lv_at jl 2 rfl) ?_
          refine lv_aload_n jx jb d_Mod_code_106 rfl (lv_at jl 0 rfl) ?_
          refine va_get (D := D) (ci := 4) (v := .int (iZ (o : Int))) (C := R_Mod) (T := F_Mod) (N := 14) jx jb jts i_Mod jown jK.1 jP 0 rfl rfl 6 (by decide) (jts _ fl_Mod_50) (fun _ h9 => h9) rfl d_Mod_code_107 ?_
          refine z_backv (wr := [(ri, .inl (cI, 6000, .inl (zA xi))), (rp, .inl (cI, 256, .inl (zA xp))), (rs, .inl (cI, 4096, .inl (zA xs)))]) jP jD jS jA [0, 4] [1, 2, 3] rfl rfl (by decide) (by decide) (va_runV (As := [.int (iZ ((ecS xp xs o xi (iL - 1).toNat j).1 : Int)), .int (iZ (o : Int))]) (rest := []) ⟨jx, jb, jml, jown, jts⟩ (c_M_put l D cI cB cZ H.size r ri ro rc rp rs rd rk rh iL go oL o bR x2 ((ecS xp xs o xi (iL - 1).toNat j).2.1) ((ecS xp xs o xi (iL - 1).toNat j).2.2) ((ecS xp xs o xi (iL - 1).toNat j).1) o (h2) (by have q := p2n o; omega) (by omega) (by omega)) (zc_V 2 jts cd_Mod_put lk_Mod_83 im_Mod_put se_Mod_put in_Mod hd_Mod_put ⟨Nat.le_of_ble_eq_true rfl, Nat.le_of_ble_eq_true rfl⟩ rfl rfl) (z_preV jK jP jD [0, 4] (by decide) rfl rfl rfl rfl) rfl rfl jl.1 rfl (lv_room (Nat.le_of_ble_eq_true rfl)) d_Mod_code_110 ⟨Nat.le_of_ble_eq_true rfl, Nat.le_of_ble_eq_true rfl⟩) (fun u110 H locs hu110 jP jD jS => ?_)
          obtain ⟨xo1_110, rfl⟩ : ∃ z, z = u110 := ⟨_, rfl⟩
          have jP : va_P D classes [(r, .inr (4, [.ref ri, .int (iZ iL), .int (iZ go), .ref ro, .int (iZ oL), .ref rc, .int (iZ (o : Int)), .ref rp, .ref rs, .ref rd, .ref rk, .ref rh, .int (iZ ((((ecS xp xs o xi (iL - 1).toNat j).2.2) + o : Nat) : Int)), .int (iZ bR)])), (ri, .inl (cI, 6000, .inl (zA xi))), (rp, .inl (cI, 256, .inl (zA xp))), (rs, .inl (cI, 4096, .inl (zA xs))), (ro, .inl (cI, 6000, .inl (zA xo1_110)))] H := jP.sub [3, 0, 1, 2, 4] rfl
          have jD : va_D A [(r, .inr (4, [.ref ri, .int (iZ iL), .int (iZ go), .ref ro, .int (iZ oL), .ref rc, .int (iZ (o : Int)), .ref rp, .ref rs, .ref rd, .ref rk, .ref rh, .int (iZ ((((ecS xp xs o xi (iL - 1).toNat j).2.2) + o : Nat) : Int)), .int (iZ bR)])), (ri, .inl (cI, 6000, .inl (zA xi))), (rp, .inl (cI, 256, .inl (zA xp))), (rs, .inl (cI, 4096, .inl (zA xs))), (ro, .inl (cI, 6000, .inl (zA xo1_110)))] := jD.sub [3, 0, 1, 2, 4] (by decide) rfl
          refine lv_aload_n jx jb d_Mod_code_113 rfl (lv_at jl 0 rfl) ?_
          refine lv_iconst (v := iZ 1) jx jb d_Mod_code_114 rfl ?_
          refine lv_iconst (v := iZ 1) jx jb d_Mod_code_115 rfl ?_
          refine z_backv (wr := [(ri, .inl (cI, 6000, .inl (zA xi))), (rp, .inl (cI, 256, .inl (zA xp))), (rs, .inl (cI, 4096, .inl (zA xs)))]) jP jD jS jA [0, 4] [1, 2, 3] rfl rfl (by decide) (by decide) (va_runV (As := [.int (iZ 1), .int (iZ 1)]) (rest := []) ⟨jx, jb, jml, jown, jts⟩ (c_M_put l D cI cB cZ H.size r ri ro rc rp rs rd rk rh iL go oL o bR xo1_110 ((ecS xp xs o xi (iL - 1).toNat j).2.1 + (ecS xp xs o xi (iL - 1).toNat j).1 * 2 ^ (ecS xp xs o xi (iL - 1).toNat j).2.2) (((ecS xp xs o xi (iL - 1).toNat j).2.2) + o : Nat) 1 1 (hu110) (by decide) (by decide) (by omega)) (zc_V 2 jts cd_Mod_put lk_Mod_83 im_Mod_put se_Mod_put in_Mod hd_Mod_put ⟨Nat.le_of_ble_eq_true rfl, Nat.le_of_ble_eq_true rfl⟩ rfl rfl) (z_preV jK jP jD [0, 4] (by decide) rfl rfl rfl rfl) rfl rfl jl.1 rfl (lv_room (Nat.le_of_ble_eq_true rfl)) d_Mod_code_116 ⟨Nat.le_of_ble_eq_true rfl, Nat.le_of_ble_eq_true rfl⟩) (fun u116 H locs hu116 jP jD jS => ?_)
          obtain ⟨xo1_116, rfl⟩ : ∃ z, z = u116 := ⟨_, rfl⟩
          have jP : va_P D classes [(r, .inr (4, [.ref ri, .int (iZ iL), .int (iZ go), .ref ro, .int (iZ oL), .ref rc, .int (iZ (o : Int)), .ref rp, .ref rs, .ref rd, .ref rk, .ref rh, .int (iZ (((((ecS xp xs o xi (iL - 1).toNat j).2.2) + o : Nat) + 1 : Nat) : Int)), .int (iZ bR)])), (ri, .inl (cI, 6000, .inl (zA xi))), (rp, .inl (cI, 256, .inl (zA xp))), (rs, .inl (cI, 4096, .inl (zA xs))), (ro, .inl (cI, 6000, .inl (zA xo1_116)))] H := jP.sub [3, 0, 1, 2, 4] rfl
          have jD : va_D A [(r, .inr (4, [.ref ri, .int (iZ iL), .int (iZ go), .ref ro, .int (iZ oL), .ref rc, .int (iZ (o : Int)), .ref rp, .ref rs, .ref rd, .ref rk, .ref rh, .int (iZ (((((ecS xp xs o xi (iL - 1).toNat j).2.2) + o : Nat) + 1 : Nat) : Int)), .int (iZ bR)])), (ri, .inl (cI, 6000, .inl (zA xi))), (rp, .inl (cI, 256, .inl (zA xp))), (rs, .inl (cI, 4096, .inl (zA xs))), (ro, .inl (cI, 6000, .inl (zA xo1_116)))] := jD.sub [3, 0, 1, 2, 4] (by decide) rfl
          refine lv_iload_n jx jb d_Mod_code_119 rfl (lv_at jl 3 rfl) ?_
          refine lv_aload_n jx jb d_Mod_code_120 rfl (lv_at jl 0 rfl) ?_
          refine va_get (D := D) (ci := 4) (v := .int (iZ (o : Int))) (C := R_Mod) (T := F_Mod) (N := 14) jx jb jts i_Mod jown jK.1 jP 0 rfl rfl 6 (by decide) (jts _ fl_Mod_50) (fun _ h9 => h9) rfl d_Mod_code_121 ?_
          refine z_iadd jx jb d_Mod_code_124 ?_
          refine lv_iconst (v := iZ 1) jx jb d_Mod_code_125 rfl ?_
          refine z_iadd jx jb d_Mod_code_126 ?_
          obtain rfl : j = (iL - 1 - go).toNat := hjm
          exact jret _ _ _ (xo1_116) _ _ (Or.inl rfl) (⟨by unfold ecB; omega, hu116⟩) (jP.sub [0, 1, 2, 3, 4] rfl) (jD.sub [0, 1, 2, 3, 4] (by decide) rfl) jS d_Mod_code_127
      ·
        refine lv_aload_n jx jb d_Mod_code_35 rfl (lv_at jl 0 rfl) ?_
        refine lv_aload_n jx jb d_Mod_code_36 rfl (lv_at jl 0 rfl) ?_
        refine va_get (D := D) (ci := 4) (v := .ref ri) (C := R_Mod) (T := F_Mod) (N := 14) jx jb jts i_Mod jown jK.1 jP 0 rfl rfl 0 (by decide) (jts _ fl_Mod_7) (fun _ h9 => h9) rfl d_Mod_code_37 ?_
        refine lv_iload jx jb d_Mod_code_40 (lv_at jl 4 rfl) ?_
        have hxb := hxi ((iL - 1).toNat - (j + 1)) (by omega)
        have hpb := hpr (xi ((iL - 1).toNat - (j + 1))).toNat (by omega)
        have hwb := wgt_b hpb
        have hqb := wgt_z hpb.1
        have hnzb : wgt (xp (xi ((iL - 1).toNat - (j + 1))).toNat) ≠ 0 := fun q => hwt ((iL - 1).toNat - (j + 1)) (by omega) (by omega) (hqb.mp q)
        have hcfb := cum_fit hpr (y := (xi ((iL - 1).toNat - (j + 1))).toNat) (by omega)
        have hclb := cum_lo hpr (b := (xi ((iL - 1).toNat - (j + 1))).toNat) (by omega)
        have hctb := hcn (xi ((iL - 1).toNat - (j + 1))).toNat (by omega)
        rw [show (((xi ((iL - 1).toNat - (j + 1))).toNat : Nat) : Int) = xi ((iL - 1).toNat - (j + 1)) by omega] at hctb
        refine z_iald jx jb jK.1 jP 1 0 rfl rfl ((iL - 1).toNat - (j + 1)) (by omega) d_Mod_code_42 ?_
        refine lv_iload_n jx jb d_Mod_code_43 rfl (lv_at jl 2 rfl) ?_
        refine z_backr (va_runV (As := [.int (iZ (xi ((iL - 1).toNat - (j + 1)))), .int (iZ ((ecS xp xs o xi (iL - 1).toNat j).1 : Int))]) (rest := []) ⟨jx, jb, jml, jown, jts⟩ (c_M_numberFor l D cI cB cZ r ri ro rc rp rs rd rk rh iL go oL o ((ecS xp xs o xi (iL - 1).toNat j).2.2 : Int) bR xp (xi ((iL - 1).toNat - (j + 1))) ((ecS xp xs o xi (iL - 1).toNat j).1 : Int) (ho.2) (by first | assumption | omega) (by omega) (by omega) (by omega)) (zc_V 2 jts cd_Mod_numberFor lk_Mod_124 im_Mod_numberFor se_Mod_numberFor in_Mod hd_Mod_numberFor ⟨Nat.le_of_ble_eq_true rfl, Nat.le_of_ble_eq_true rfl⟩ rfl rfl) (z_preVR jK jP [0, 2] rfl rfl rfl) rfl rfl jl.1 rfl (lv_room (Nat.le_of_ble_eq_true rfl)) d_Mod_code_44 ⟨Nat.le_of_ble_eq_true rfl, Nat.le_of_ble_eq_true rfl⟩) (fun z44 hz44 => ?_)
        obtain ⟨n44, hn44, rfl, hl44, hh44⟩ := hz44
        have hen := enN_is (N := o + 1) (show 0 ≤ (((ecS xp xs o xi (iL - 1).toNat j).1 : Int) + 2 ^ o) by omega) ⟨hl44, hh44⟩ (by omega)
        have hzd := zlog_div (wh := (((ecS xp xs o xi (iL - 1).toNat j).1 : Int) + 2 ^ o)) (o := o) (b := n44) (by omega) (by omega) hn44
        have hwd := wh_div (wh := (((ecS xp xs o xi (iL - 1).toNat j).1 : Int) + 2 ^ o)) (b := n44) (by omega)
        have hb1 := ec_b1 hen
        have hv1 := ec_v1 hen
        refine lv_istore (lv' := [(5, .int (iZ ((((ecS xp xs o xi (iL - 1).toNat j).1 : Int) + 2 ^ o) / 2 ^ n44))), (0, .ref r), (1, .int (iZ 1)), (2, .int (iZ ((ecS xp xs o xi (iL - 1).toNat j).1 : Int))), (3, .int (iZ ((ecS xp xs o xi (iL - 1).toNat j).2.2 : Int))), (4, .int (iZ (iL - 2 - (j : Int))))]) jx jb d_Mod_code_47 jl (by decide) rfl (fun ls jl => ?_)
        refine lv_iload_n jx jb d_Mod_code_49 rfl (lv_at jl 2 rfl) ?_
        refine z_if_eq (tgt := 71) jx jb d_Mod_code_50 (by decide) ⟨by decide, by decide⟩ (fun hc50 => ?_) (fun hc50 => ?_)
        ·
          exact absurd hc50 (by decide)
        ·
          refine lv_aload_n jx jb d_Mod_code_53 rfl (lv_at jl 1 rfl) ?_
          refine lv_iload_n jx jb d_Mod_code_54 rfl (lv_at jl 3 rfl) ?_
          refine lv_aload_n jx jb d_Mod_code_55 rfl (lv_at jl 1 rfl) ?_
          refine lv_iload jx jb d_Mod_code_56 (lv_at jl 0 rfl) ?_
          refine z_backe (va_runV (As := [.int (iZ ((((ecS xp xs o xi (iL - 1).toNat j).1 : Int) + 2 ^ o) / 2 ^ n44))]) (rest := [.int (iZ ((ecS xp xs o xi (iL - 1).toNat j).1 : Int)), .ref r]) ⟨jx, jb, jml, jown, jts⟩ (c_M_baseOf l D cI cB cZ r ri ro rc rp rs rd rk rh iL go oL o ((ecS xp xs o xi (iL - 1).toNat j).2.2 : Int) bR ((((ecS xp xs o xi (iL - 1).toNat j).1 : Int) + 2 ^ o) / 2 ^ n44) (ho.2) (by omega)) (zc_V 1 jts cd_Mod_baseOf lk_Mod_118 im_Mod_baseOf se_Mod_baseOf in_Mod hd_Mod_baseOf ⟨Nat.le_of_ble_eq_true rfl, Nat.le_of_ble_eq_true rfl⟩ rfl rfl) (z_preVR jK jP [0] rfl rfl rfl) rfl rfl jl.1 rfl (lv_room (Nat.le_of_ble_eq_true rfl)) d_Mod_code_58 ⟨Nat.le_of_ble_eq_true rfl, Nat.le_of_ble_eq_true rfl⟩) ?_
          refine z_isub jx jb d_Mod_code_61 ?_
          refine z_top (((((ecS xp xs o xi (iL - 1).toNat j).1 : Int) + 2 ^ o) % 2 ^ n44).toNat : Int) (st_base (by omega) hn44) ?_
          refine lv_aload_n jx jb d_Mod_code_62 rfl (lv_at jl 1 rfl) ?_
          refine lv_iload jx jb d_Mod_code_63 (lv_at jl 0 rfl) ?_
          refine z_backe (va_runV (As := [.int (iZ ((((ecS xp xs o xi (iL - 1).toNat j).1 : Int) + 2 ^ o) / 2 ^ n44))]) (rest := [.int (iZ (((((ecS xp xs o xi (iL - 1).toNat j).1 : Int) + 2 ^ o) % 2 ^ n44).toNat : Int)), .ref r]) ⟨jx, jb, jml, jown, jts⟩ (c_M_bitsOf l D cI cB cZ r ri ro rc rp rs rd rk rh iL go oL o ((ecS xp xs o xi (iL - 1).toNat j).2.2 : Int) bR ((((ecS xp xs o xi (iL - 1).toNat j).1 : Int) + 2 ^ o) / 2 ^ n44) (ho.2) (by omega)) (zc_V 1 jts cd_Mod_bitsOf lk_Mod_112 im_Mod_bitsOf se_Mod_bitsOf in_Mod hd_Mod_bitsOf ⟨Nat.le_of_ble_eq_true rfl, Nat.le_of_ble_eq_true rfl⟩ rfl rfl) (z_preVR jK jP [0] rfl rfl rfl) rfl rfl jl.1 rfl (lv_room (Nat.le_of_ble_eq_true rfl)) d_Mod_code_65 ⟨Nat.le_of_ble_eq_true rfl, Nat.le_of_ble_eq_true rfl⟩) ?_
          refine z_top (n44 : Int) (by rw [hzd]; omega) ?_
          refine z_backv (wr := [(ri, .inl (cI, 6000, .inl (zA xi))), (rp, .inl (cI, 256, .inl (zA xp))), (rs, .inl (cI, 4096, .inl (zA xs)))]) jP jD jS jA [0, 4] [1, 2, 3] rfl rfl (by decide) (by decide) (va_runV (As := [.int (iZ (((((ecS xp xs o xi (iL - 1).toNat j).1 : Int) + 2 ^ o) % 2 ^ n44).toNat : Int)), .int (iZ (n44 : Int))]) (rest := []) ⟨jx, jb, jml, jown, jts⟩ (c_M_put l D cI cB cZ H.size r ri ro rc rp rs rd rk rh iL go oL o bR x2 ((ecS xp xs o xi (iL - 1).toNat j).2.1) ((ecS xp xs o xi (iL - 1).toNat j).2.2) (((((ecS xp xs o xi (iL - 1).toNat j).1 : Int) + 2 ^ o) % 2 ^ n44).toNat) n44 (h2) (mod_lt2) (by omega) (by have q := ecB_mono (gP := xp) (gS := xs) (o := o) (b := xi) (hi := (iL - 1).toNat) (show j + 1 ≤ (iL - 1 - go).toNat by omega); omega)) (zc_V 2 jts cd_Mod_put lk_Mod_83 im_Mod_put se_Mod_put in_Mod hd_Mod_put ⟨Nat.le_of_ble_eq_true rfl, Nat.le_of_ble_eq_true rfl⟩ rfl rfl) (z_preV jK jP jD [0, 4] (by decide) rfl rfl rfl rfl) rfl rfl jl.1 rfl (lv_room (Nat.le_of_ble_eq_true rfl)) d_Mod_code_68 ⟨Nat.le_of_ble_eq_true rfl, Nat.le_of_ble_eq_true rfl⟩) (fun u68 H locs hu68 jP jD jS => ?_)
          obtain ⟨xo1_68, rfl⟩ : ∃ z, z = u68 := ⟨_, rfl⟩
          have jP : va_P D classes [(r, .inr (4, [.ref ri, .int (iZ iL), .int (iZ go), .ref ro, .int (iZ oL), .ref rc, .int (iZ (o : Int)), .ref rp, .ref rs, .ref rd, .ref rk, .ref rh, .int (iZ ((((ecS xp xs o xi (iL - 1).toNat j).2.2) + n44 : Nat) : Int)), .int (iZ bR)])), (ri, .inl (cI, 6000, .inl (zA xi))), (rp, .inl (cI, 256, .inl (zA xp))), (rs, .inl (cI, 4096, .inl (zA xs))), (ro, .inl (cI, 6000, .inl (zA xo1_68)))] H := jP.sub [3, 0, 1, 2, 4] rfl
          have jD : va_D A [(r, .inr (4, [.ref ri, .int (iZ iL), .int (iZ go), .ref ro, .int (iZ oL), .ref rc, .int (iZ (o : Int)), .ref rp, .ref rs, .ref rd, .ref rk, .ref rh, .int (iZ ((((ecS xp xs o xi (iL - 1).toNat j).2.2) + n44 : Nat) : Int)), .int (iZ bR)])), (ri, .inl (cI, 6000, .inl (zA xi))), (rp, .inl (cI, 256, .inl (zA xp))), (rs, .inl (cI, 4096, .inl (zA xs))), (ro, .inl (cI, 6000, .inl (zA xo1_68)))] := jD.sub [3, 0, 1, 2, 4] (by decide) rfl
          rw [← hb1] at jP jD
          refine lv_iload_n jx jb d_Mod_code_71 rfl (lv_at jl 4 rfl) ?_
          refine lv_aload_n jx jb d_Mod_code_72 rfl (lv_at jl 1 rfl) ?_
          refine lv_iload jx jb d_Mod_code_73 (lv_at jl 0 rfl) ?_
          refine z_backe (va_runV (As := [.int (iZ ((((ecS xp xs o xi (iL - 1).toNat j).1 : Int) + 2 ^ o) / 2 ^ n44))]) (rest := [.int (iZ ((ecS xp xs o xi (iL - 1).toNat j).2.2 : Int))]) ⟨jx, jb, jml, jown, jts⟩ (c_M_bitsOf l D cI cB cZ r ri ro rc rp rs rd rk rh iL go oL o ((ecS xp xs o xi (iL - 1).toNat (j + 1)).2.2 : Int) bR ((((ecS xp xs o xi (iL - 1).toNat j).1 : Int) + 2 ^ o) / 2 ^ n44) (ho.2) (by omega)) (zc_V 1 jts cd_Mod_bitsOf lk_Mod_112 im_Mod_bitsOf se_Mod_bitsOf in_Mod hd_Mod_bitsOf ⟨Nat.le_of_ble_eq_true rfl, Nat.le_of_ble_eq_true rfl⟩ rfl rfl) (z_preVR jK jP [0] rfl rfl rfl) rfl rfl jl.1 rfl (lv_room (Nat.le_of_ble_eq_true rfl)) d_Mod_code_75 ⟨Nat.le_of_ble_eq_true rfl, Nat.le_of_ble_eq_true rfl⟩) ?_
          refine z_top (n44 : Int) (by rw [hzd]; omega) ?_
          refine z_iadd jx jb d_Mod_code_78 ?_
          refine z_top ((ecS xp xs o xi (iL - 1).toNat (j + 1)).2.2 : Int) (by rw [hb1]; exact (Int.natCast_add _ _).symm) ?_
          refine lv_istore_n (lv' := [(3, .int (iZ ((ecS xp xs o xi (iL - 1).toNat (j + 1)).2.2 : Int))), (5, .int (iZ ((((ecS xp xs o xi (iL - 1).toNat j).1 : Int) + 2 ^ o) / 2 ^ n44))), (0, .ref r), (1, .int (iZ 1)), (2, .int (iZ ((ecS xp xs o xi (iL - 1).toNat j).1 : Int))), (4, .int (iZ (iL - 2 - (j : Int))))]) jx jb d_Mod_code_79 rfl jl (by decide) rfl (fun ls jl => ?_)
          refine lv_aload_n jx jb d_Mod_code_80 rfl (lv_at jl 2 rfl) ?_
          refine lv_aload_n jx jb d_Mod_code_81 rfl (lv_at jl 2 rfl) ?_
          refine va_get (D := D) (ci := 4) (v := .ref ri) (C := R_Mod) (T := F_Mod) (N := 14) jx jb jts i_Mod jown jK.1 jP 0 rfl rfl 0 (by decide) (jts _ fl_Mod_7) (fun _ h9 => h9) rfl d_Mod_code_82 ?_
          refine lv_iload jx jb d_Mod_code_85 (lv_at jl 5 rfl) ?_
          refine z_iald jx jb jK.1 jP 1 0 rfl rfl ((iL - 1).toNat - (j + 1)) (by omega) d_Mod_code_87 ?_
          refine lv_iload jx jb d_Mod_code_88 (lv_at jl 1 rfl) ?_
          refine z_backr (va_runV (As := [.int (iZ (xi ((iL - 1).toNat - (j + 1)))), .int (iZ ((((ecS xp xs o xi (iL - 1).toNat j).1 : Int) + 2 ^ o) / 2 ^ n44))]) (rest := []) ⟨jx, jb, jml, jown, jts⟩ (c_M_cellOf l D cI cB cZ r ri ro rc rp rs rd rk rh iL go oL o ((ecS xp xs o xi (iL - 1).toNat (j + 1)).2.2 : Int) bR xp xs (xi ((iL - 1).toNat - (j + 1))) ((((ecS xp xs o xi (iL - 1).toNat j).1 : Int) + 2 ^ o) / 2 ^ n44) (ho.2) (by first | assumption | omega) (by first | assumption | omega) (by omega) (by omega)) (zc_V 2 jts cd_Mod_cellOf lk_Mod_127 im_Mod_cellOf se_Mod_cellOf in_Mod hd_Mod_cellOf ⟨Nat.le_of_ble_eq_true rfl, Nat.le_of_ble_eq_true rfl⟩ rfl rfl) (z_preVR jK jP [0, 2, 3] rfl rfl rfl) rfl rfl jl.1 rfl (lv_room (Nat.le_of_ble_eq_true rfl)) d_Mod_code_90 ⟨Nat.le_of_ble_eq_true rfl, Nat.le_of_ble_eq_true rfl⟩) (fun z90 hz90 => ?_)
          obtain ⟨k90, rfl, hk90, hs90, hq90⟩ := hz90
          refine z_top ((ecS xp xs o xi (iL - 1).toNat (j + 1)).1 : Int) (ec_c1 hk90 hen hs90 hq90) ?_
          refine lv_istore_n (lv' := [(2, .int (iZ ((ecS xp xs o xi (iL - 1).toNat (j + 1)).1 : Int))), (3, .int (iZ ((ecS xp xs o xi (iL - 1).toNat (j + 1)).2.2 : Int))), (5, .int (iZ ((((ecS xp xs o xi (iL - 1).toNat j).1 : Int) + 2 ^ o) / 2 ^ n44))), (0, .ref r), (1, .int (iZ 1)), (4, .int (iZ (iL - 2 - (j : Int))))]) jx jb d_Mod_code_93 rfl jl (by decide) rfl (fun ls jl => ?_)
          refine lv_iinc (v := iZ (iL - 2 - ((j + 1 : Nat) : Int))) (lv' := [(4, .int (iZ (iL - 2 - ((j + 1 : Nat) : Int)))), (2, .int (iZ ((ecS xp xs o xi (iL - 1).toNat (j + 1)).1 : Int))), (3, .int (iZ ((ecS xp xs o xi (iL - 1).toNat (j + 1)).2.2 : Int))), (5, .int (iZ ((((ecS xp xs o xi (iL - 1).toNat j).1 : Int) + 2 ^ o) / 2 ^ n44))), (0, .ref r), (1, .int (iZ 1))]) jx jb d_Mod_code_94 jl (k := 5) rfl (by rw [show (iL - 2 - ((j + 1 : Nat) : Int)) = (iL - 2 - (j : Int)) + (-1) from by omega]; exact iZ_add _ _) (by decide) rfl (fun ls jl => ?_)
          refine lv_goto (tgt := 26) jx jb d_Mod_code_97 (by decide) ?_
          exact ih26 (j + 1) xo1_68 (by omega) (by first | assumption | omega) (by rw [hv1, hb1]; exact hu68) _ _ (jP.sub [0, 1, 2, 3, 4] rfl) (jD.sub [0, 1, 2, 3, 4] (by decide) rfl) jS _ (lv_sub jl [4, 5, 1, 2, 0] rfl)
  exact hloop26 (((iL - 1 - go).toNat - 0) + 1) 0 xo (Nat.lt_succ_self _) (by first | assumption | omega) (hO) _ _ (jP.sub [0, 1, 2, 3, 4] rfl) (jD.sub [0, 1, 2, 3, 4] (by decide) rfl) jS _ (lv_sub jl [3, 4, 2, 1, 0] rfl)
abbrev rm_M_encode : Room := { frames := 3, cells := 0, slots := 0, locals := 72 }
set_option maxHeartbeats 4000000 in
set_option maxRecDepth 100000 in
theorem c_M_encode (l : Launch) (D : va_G) (cI cB cZ : ClassId) (sz : Nat) (r : Nat) (ri : Nat) (ro : Nat) (rc : Nat) (rp : Nat) (rs : Nat) (rd : Nat) (rk : Nat) (rh : Nat) (iL : Int) (go : Int) (oL : Int) (o : Nat) (bP : Int) (bR : Int) (xi : Nat → Int) (xp : Nat → Int) (xs : Nat → Int) (xo : Nat → Int) (hiL : 0 ≤ iL ∧ iL ≤ 6000) (hgo : 0 ≤ go ∧ go ≤ iL) (hxi : ∀ k, k < 6000 → 0 ≤ xi k ∧ xi k < 256) (hpr : ∀ k, k < 256 → -1 ≤ xp k ∧ xp k ≤ 65536) (hxs : ∀ k, k < 4096 → 0 ≤ xs k ∧ xs k < 256) (ho : o = 0 ∨ (5 ≤ o ∧ o ≤ 12)) (hsum : 0 < o → cum xp 256 = 2 ^ o) (hcn : 0 < o → ∀ v : Nat, v < 256 → cntS xs v (2 ^ o) = wgt (xp v)) : Met l y_Mod_encode (.code y_Mod_encode b_Mod_encode 2 (some .int) :: zT) rm_M_encode (zPc D classes (TY cI cB cZ) [(r, .inr (4, [.ref ri, .int (iZ iL), .int (iZ go), .ref ro, .int (iZ oL), .ref rc, .int (iZ (o : Int)), .ref rp, .ref rs, .ref rd, .ref rk, .ref rh, .int (iZ bP), .int (iZ bR)])), (ri, .inl (cI, 6000, .inl (zA xi))), (rp, .inl (cI, 256, .inl (zA xp))), (rs, .inl (cI, 4096, .inl (zA xs))), (ro, .inl (cI, 6000, .inl (zA xo)))] sz [.ref r]) (zFi (S := Int × Int × (Nat → Int)) D classes (fun z u => (z = -1 ∧ o = 0 ∧ u.1 = oL ∧ u.2.2 = xo) ∨ (z = -2 ∧ 0 < o ∧ go = iL ∧ u.1 = oL ∧ u.2.2 = xo) ∨ (z = -3 ∧ 0 < o ∧ go < iL ∧ (∃ k : Nat, go ≤ (k : Int) ∧ (k : Int) < iL ∧ xp (xi k).toNat = 0) ∧ u.1 = oL ∧ u.2.2 = xo) ∨ (z = -4 ∧ 0 < o ∧ go < iL ∧ (∀ k : Nat, go ≤ (k : Int) → (k : Int) < iL → xp (xi k).toNat ≠ 0) ∧ 48000 < (ecB xp xs o xi (iL - 1).toNat (iL - 1 - go).toNat) ∧ u.1 = oL ∧ u.2.2 = xo) ∨ (z = u.1 ∧ 0 < o ∧ go < iL ∧ (∀ k : Nat, go ≤ (k : Int) → (k : Int) < iL → xp (xi k).toNat ≠ 0) ∧ (ecB xp xs o xi (iL - 1).toNat (iL - 1 - go).toNat) ≤ 48000 ∧ u.1 = (((ecB xp xs o xi (iL - 1).toNat (iL - 1 - go).toNat) + 7) / 8 : Nat) ∧ mO (ecV xp xs o xi (iL - 1).toNat (iL - 1 - go).toNat) (ecB xp xs o xi (iL - 1).toNat (iL - 1 - go).toNat) u.2.2)) (fun u => [(r, .inr (4, [.ref ri, .int (iZ iL), .int (iZ go), .ref ro, .int (iZ u.1), .ref rc, .int (iZ (o : Int)), .ref rp, .ref rs, .ref rd, .ref rk, .ref rh, .int (iZ u.2.1), .int (iZ bR)])), (ri, .inl (cI, 6000, .inl (zA xi))), (rp, .inl (cI, 256, .inl (zA xp))), (rs, .inl (cI, 4096, .inl (zA xs))), (ro, .inl (cI, 6000, .inl (zA u.2.2)))]) (va_A [(r, .inr (4, [.ref ri, .int (iZ iL), .int (iZ go), .ref ro, .int (iZ oL), .ref rc, .int (iZ (o : Int)), .ref rp, .ref rs, .ref rd, .ref rk, .ref rh, .int (iZ bP), .int (iZ bR)])), (ri, .inl (cI, 6000, .inl (zA xi))), (rp, .inl (cI, 256, .inl (zA xp))), (rs, .inl (cI, 4096, .inl (zA xs))), (ro, .inl (cI, 6000, .inl (zA xo)))] sz)) 0 0 (va_A [(r, .inr (4, [.ref ri, .int (iZ iL), .int (iZ go), .ref ro, .int (iZ oL), .ref rc, .int (iZ (o : Int)), .ref rp, .ref rs, .ref rd, .ref rk, .ref rh, .int (iZ bP), .int (iZ bR)])), (ri, .inl (cI, 6000, .inl (zA xi))), (rp, .inl (cI, 256, .inl (zA xp))), (rs, .inl (cI, 4096, .inl (zA xs))), (ro, .inl (cI, 6000, .inl (zA xo)))] sz) := by
  refine z_ofi (by decide) (Nat.le_of_ble_eq_true rfl) (Or.inl rfl) ?_
  intro p e s m args below meth c A Q E jA jK jret H locs jP jD jS ls jl
  obtain ⟨jx, jb, jrt, jml, jown, jts, jlk⟩ := E
  have jown : s.vm.findClass R_Mod = some m.cls := jown
  have jl : lv_has ls 2 [(0, .ref r)] := jl
  refine lv_aload_n jx jb d_Mod_encode_0 rfl (lv_at jl 0 rfl) ?_
  refine va_get (D := D) (ci := 4) (v := .int (iZ (o : Int))) (C := R_Mod) (T := F_Mod) (N := 14) jx jb jts i_Mod jown jK.1 jP 0 rfl rfl 6 (by decide) (jts _ fl_Mod_50) (fun _ h9 => h9) rfl d_Mod_encode_1 ?_
  refine z_if_ne (tgt := 9) jx jb d_Mod_encode_4 (by decide) ⟨by omega, by omega⟩ (fun hc4 => ?_) (fun hc4 => ?_)
  ·
    have ho0 : 0 < o := by omega
    have ho5 : 5 ≤ o ∧ o ≤ 12 := by omega
    refine lv_aload_n jx jb d_Mod_encode_9 rfl (lv_at jl 0 rfl) ?_
    refine va_get (D := D) (ci := 4) (v := .int (iZ go)) (C := R_Mod) (T := F_Mod) (N := 14) jx jb jts i_Mod jown jK.1 jP 0 rfl rfl 2 (by decide) (jts _ fl_Mod_42) (fun _ h9 => h9) rfl d_Mod_encode_10 ?_
    refine lv_aload_n jx jb d_Mod_encode_13 rfl (lv_at jl 0 rfl) ?_
    refine va_get (D := D) (ci := 4) (v := .int (iZ iL)) (C := R_Mod) (T := F_Mod) (N := 14) jx jb jts i_Mod jown jK.1 jP 0 rfl rfl 1 (by decide) (jts _ fl_Mod_35) (fun _ h9 => h9) rfl d_Mod_encode_14 ?_
    refine z_icmp_ne (tgt := 23) jx jb d_Mod_encode_17 (by decide) ⟨⟨by omega, by omega⟩, ⟨by omega, by omega⟩⟩ (fun hc17 => ?_) (fun hc17 => ?_)
    ·
      have hlt : go < iL := by omega
      refine lv_aload_n jx jb d_Mod_encode_23 rfl (lv_at jl 0 rfl) ?_
      refine va_get (D := D) (ci := 4) (v := .int (iZ go)) (C := R_Mod) (T := F_Mod) (N := 14) jx jb jts i_Mod jown jK.1 jP 0 rfl rfl 2 (by decide) (jts _ fl_Mod_42) (fun _ h9 => h9) rfl d_Mod_encode_24 ?_
      refine z_top ((go.toNat : Nat) : Int) (by omega) ?_
      refine lv_istore_n (lv' := [(1, .int (iZ ((go.toNat : Nat) : Int))), (0, .ref r)]) jx jb d_Mod_encode_27 rfl jl (by decide) rfl (fun ls jl => ?_)
      have hloop28 : ∀ (nF : Nat) (i : Nat), iL.toNat - i < nF → (go ≤ (i : Int) ∧ (i : Int) ≤ iL) → (∀ k : Nat, go ≤ (k : Int) → k < i → xp (xi k).toNat ≠ 0) → ∀ (H : Heap) (locs : List Loc), va_P D classes [(r, .inr (4, [.ref ri, .int (iZ iL), .int (iZ go), .ref ro, .int (iZ oL), .ref rc, .int (iZ (o : Int)), .ref rp, .ref rs, .ref rd, .ref rk, .ref rh, .int (iZ bP), .int (iZ bR)])), (ri, .inl (cI, 6000, .inl (zA xi))), (rp, .inl (cI, 256, .inl (zA xp))), (rs, .inl (cI, 4096, .inl (zA xs))), (ro, .inl (cI, 6000, .inl (zA xo)))] H → va_D A [(r, .inr (4, [.ref ri, .int (iZ iL), .int (iZ go), .ref ro, .int (iZ oL), .ref rc, .int (iZ (o : Int)), .ref rp, .ref rs, .ref rd, .ref rk, .ref rh, .int (iZ bP), .int (iZ bR)])), (ri, .inl (cI, 6000, .inl (zA xi))), (rp, .inl (cI, 256, .inl (zA xp))), (rs, .inl (cI, 4096, .inl (zA xs))), (ro, .inl (cI, 6000, .inl (zA xo)))] → va_S A s.heap H locs → ∀ ls : Array Slot, lv_has ls 2 [(0, .ref r), (1, .int (iZ (i : Int)))] → W p l e rm_M_encode s m args below meth c H locs 0 0 Q (F0 m 28 ls []) := by
        intro nF
        induction nF with
        | zero => intro i hm; exact absurd hm (Nat.not_lt_zero _)
        | succ nF ih28 =>
          intro i hm hi h0 H locs jP jD jS ls jl
          refine lv_iload_n jx jb d_Mod_encode_28 rfl (lv_at jl 1 rfl) ?_
          refine lv_aload_n jx jb d_Mod_encode_29 rfl (lv_at jl 0 rfl) ?_
          refine va_get (D := D) (ci := 4) (v := .int (iZ iL)) (C := R_Mod) (T := F_Mod) (N := 14) jx jb jts i_Mod jown jK.1 jP 0 rfl rfl 1 (by decide) (jts _ fl_Mod_35) (fun _ h9 => h9) rfl d_Mod_encode_30 ?_
          refine z_icmp_ge (tgt := 59) jx jb d_Mod_encode_33 (by decide) ⟨⟨by omega, by omega⟩, ⟨by omega, by omega⟩⟩ (fun hc33 => ?_) (fun hc33 => ?_)
          ·
            have hall : ∀ k : Nat, go ≤ (k : Int) → (k : Int) < iL → xp (xi k).toNat ≠ 0 := fun k q1 q2 => h0 k q1 (by omega)
            have hb0 : (0 : Int) ≤ ((ecB xp xs o xi (iL - 1).toNat (iL - 1 - go).toNat) : Int) := Int.natCast_nonneg _
            have hb9 := ecB_hi (gP := xp) (gS := xs) (b := xi) (hi := (iL - 1).toNat) (m := (iL - 1 - go).toNat) ho5.2
            refine lv_aload_n jx jb d_Mod_encode_59 rfl (lv_at jl 0 rfl) ?_
            refine lv_iconst (v := iZ 0) jx jb d_Mod_encode_60 rfl ?_
            refine z_backe (va_runV (As := [.int (iZ 0)]) (rest := []) ⟨jx, jb, jml, jown, jts⟩ (c_M_codeF l D cI cB cZ r ri ro rc rp rs rd rk rh iL go oL o bP bR xi xp xs (by first | assumption | omega) (by omega) (by first | assumption | omega) (by first | assumption | omega) (by first | assumption | omega) (ho5) (hsum ho0) (hcn ho0) (hall)) (zc_V 1 jts cd_Mod_code lk_Mod_130 im_Mod_code se_Mod_code in_Mod hd_Mod_code ⟨Nat.le_of_ble_eq_true rfl, Nat.le_of_ble_eq_true rfl⟩ rfl rfl) (z_preVR jK jP [0, 1, 2, 3] rfl rfl rfl) rfl rfl jl.1 rfl (lv_room (Nat.le_of_ble_eq_true rfl)) d_Mod_encode_61 ⟨Nat.le_of_ble_eq_true rfl, Nat.le_of_ble_eq_true rfl⟩) ?_
            refine lv_ldc (v := iZ 48000) jx jb jown (jts _ cn_Mod_134) d_Mod_encode_64 ?_
            refine z_icmp_le (tgt := 72) jx jb d_Mod_encode_66 (by decide) ⟨⟨by omega, by omega⟩, ⟨by decide, by decide⟩⟩ (fun hc66 => ?_) (fun hc66 => ?_)
            ·
              refine lv_aload_n jx jb d_Mod_encode_72 rfl (lv_at jl 0 rfl) ?_
              refine z_backv (wr := [(ri, .inl (cI, 6000, .inl (zA xi))), (rp, .inl (cI, 256, .inl (zA xp))), (rs, .inl (cI, 4096, .inl (zA xs)))]) jP jD jS jA [0, 4] [1, 2, 3] rfl rfl (by decide) (by decide) (va_runV (As := []) (rest := []) ⟨jx, jb, jml, jown, jts⟩ (c_M_beginOut l D cI cB cZ H.size r ri ro rc rp rs rd rk rh iL go oL o bP bR xo) (zc_V 0 jts cd_Mod_beginOut lk_Mod_87 im_Mod_beginOut se_Mod_beginOut in_Mod hd_Mod_beginOut ⟨Nat.le_of_ble_eq_true rfl, Nat.le_of_ble_eq_true rfl⟩ rfl rfl) (z_preV jK jP jD [0, 4] (by decide) rfl rfl rfl rfl) rfl rfl jl.1 rfl (lv_room (Nat.le_of_ble_eq_true rfl)) d_Mod_encode_73 ⟨Nat.le_of_ble_eq_true rfl, Nat.le_of_ble_eq_true rfl⟩) (fun u73 H locs hu73 jP jD jS => ?_)
              obtain ⟨xo1_73, rfl⟩ : ∃ z, z = u73 := ⟨_, rfl⟩
              have jP : va_P D classes [(r, .inr (4, [.ref ri, .int (iZ iL), .int (iZ go), .ref ro, .int (iZ oL), .ref rc, .int (iZ (o : Int)), .ref rp, .ref rs, .ref rd, .ref rk, .ref rh, .int (iZ 0), .int (iZ bR)])), (ri, .inl (cI, 6000, .inl (zA xi))), (rp, .inl (cI, 256, .inl (zA xp))), (rs, .inl (cI, 4096, .inl (zA xs))), (ro, .inl (cI, 6000, .inl (zA xo1_73)))] H := jP.sub [3, 0, 1, 2, 4] rfl
              have jD : va_D A [(r, .inr (4, [.ref ri, .int (iZ iL), .int (iZ go), .ref ro, .int (iZ oL), .ref rc, .int (iZ (o : Int)), .ref rp, .ref rs, .ref rd, .ref rk, .ref rh, .int (iZ 0), .int (iZ bR)])), (ri, .inl (cI, 6000, .inl (zA xi))), (rp, .inl (cI, 256, .inl (zA xp))), (rs, .inl (cI, 4096, .inl (zA xs))), (ro, .inl (cI, 6000, .inl (zA xo1_73)))] := jD.sub [3, 0, 1, 2, 4] (by decide) rfl
              refine lv_aload_n jx jb d_Mod_encode_76 rfl (lv_at jl 0 rfl) ?_
              refine lv_iconst (v := iZ 1) jx jb d_Mod_encode_77 rfl ?_
              refine z_backi (wr := []) jP jD jS jA [0, 1, 2, 3, 4] [] rfl rfl (by decide) (by decide) (va_runV (As := [.int (iZ 1)]) (rest := []) ⟨jx, jb, jml, jown, jts⟩ (c_M_codeT l D cI cB cZ H.size r ri ro rc rp rs rd rk rh iL go oL o bR xi xp xs xo1_73 (by first | assumption | omega) (by omega) (by first | assumption | omega) (by first | assumption | omega) (by first | assumption | omega) (ho5) (hsum ho0) (hcn ho0) (hall) (hu73) (by omega)) (zc_V 1 jts cd_Mod_code lk_Mod_130 im_Mod_code se_Mod_code in_Mod hd_Mod_code ⟨Nat.le_of_ble_eq_true rfl, Nat.le_of_ble_eq_true rfl⟩ rfl rfl) (z_preV jK jP jD [0, 1, 2, 3, 4] (by decide) rfl rfl rfl rfl) rfl rfl jl.1 rfl (lv_room (Nat.le_of_ble_eq_true rfl)) d_Mod_encode_78 ⟨Nat.le_of_ble_eq_true rfl, Nat.le_of_ble_eq_true rfl⟩) (fun z78 u78 H locs hz78 jP jD jS => ?_)
              obtain ⟨xo1_78, rfl⟩ : ∃ z, z = u78 := ⟨_, rfl⟩
              have jP : va_P D classes [(r, .inr (4, [.ref ri, .int (iZ iL), .int (iZ go), .ref ro, .int (iZ oL), .ref rc, .int (iZ (o : Int)), .ref rp, .ref rs, .ref rd, .ref rk, .ref rh, .int (iZ ((ecB xp xs o xi (iL - 1).toNat (iL - 1 - go).toNat) : Int)), .int (iZ bR)])), (ri, .inl (cI, 6000, .inl (zA xi))), (rp, .inl (cI, 256, .inl (zA xp))), (rs, .inl (cI, 4096, .inl (zA xs))), (ro, .inl (cI, 6000, .inl (zA xo1_78)))] H := jP.sub [0, 1, 2, 3, 4] rfl
              have jD : va_D A [(r, .inr (4, [.ref ri, .int (iZ iL), .int (iZ go), .ref ro, .int (iZ oL), .ref rc, .int (iZ (o : Int)), .ref rp, .ref rs, .ref rd, .ref rk, .ref rh, .int (iZ ((ecB xp xs o xi (iL - 1).toNat (iL - 1 - go).toNat) : Int)), .int (iZ bR)])), (ri, .inl (cI, 6000, .inl (zA xi))), (rp, .inl (cI, 256, .inl (zA xp))), (rs, .inl (cI, 4096, .inl (zA xs))), (ro, .inl (cI, 6000, .inl (zA xo1_78)))] := jD.sub [0, 1, 2, 3, 4] (by decide) rfl
              obtain ⟨rfl, hq78⟩ := hz78
              refine lv_pop jx jb d_Mod_encode_81 rfl ?_
              refine lv_aload_n jx jb d_Mod_encode_82 rfl (lv_at jl 0 rfl) ?_
              refine z_backie (wr := [(ri, .inl (cI, 6000, .inl (zA xi))), (rp, .inl (cI, 256, .inl (zA xp))), (rs, .inl (cI, 4096, .inl (zA xs))), (ro, .inl (cI, 6000, .inl (zA xo1_78)))]) jP jD jS jA [0] [1, 2, 3, 4] rfl rfl (by decide) (by decide) (va_runV (As := []) (rest := []) ⟨jx, jb, jml, jown, jts⟩ (c_M_endOut l D cI cB cZ H.size r ri ro rc rp rs rd rk rh iL go oL o ((ecB xp xs o xi (iL - 1).toNat (iL - 1 - go).toNat) : Int) bR (by omega)) (zc_V 0 jts cd_Mod_endOut lk_Mod_93 im_Mod_endOut se_Mod_endOut in_Mod hd_Mod_endOut ⟨Nat.le_of_ble_eq_true rfl, Nat.le_of_ble_eq_true rfl⟩ rfl rfl) (z_preV jK jP jD [0] (by decide) rfl rfl rfl rfl) rfl rfl jl.1 rfl (lv_room (Nat.le_of_ble_eq_true rfl)) d_Mod_encode_83 ⟨Nat.le_of_ble_eq_true rfl, Nat.le_of_ble_eq_true rfl⟩) (fun u83 H locs jP jD jS => ?_)
              have jP : va_P D classes [(r, .inr (4, [.ref ri, .int (iZ iL), .int (iZ go), .ref ro, .int (iZ ((((ecB xp xs o xi (iL - 1).toNat (iL - 1 - go).toNat) : Int) + 7) / 8)), .ref rc, .int (iZ (o : Int)), .ref rp, .ref rs, .ref rd, .ref rk, .ref rh, .int (iZ ((ecB xp xs o xi (iL - 1).toNat (iL - 1 - go).toNat) : Int)), .int (iZ bR)])), (ri, .inl (cI, 6000, .inl (zA xi))), (rp, .inl (cI, 256, .inl (zA xp))), (rs, .inl (cI, 4096, .inl (zA xs))), (ro, .inl (cI, 6000, .inl (zA xo1_78)))] H := jP.sub [4, 0, 1, 2, 3] rfl
              have jD : va_D A [(r, .inr (4, [.ref ri, .int (iZ iL), .int (iZ go), .ref ro, .int (iZ ((((ecB xp xs o xi (iL - 1).toNat (iL - 1 - go).toNat) : Int) + 7) / 8)), .ref rc, .int (iZ (o : Int)), .ref rp, .ref rs, .ref rd, .ref rk, .ref rh, .int (iZ ((ecB xp xs o xi (iL - 1).toNat (iL - 1 - go).toNat) : Int)), .int (iZ bR)])), (ri, .inl (cI, 6000, .inl (zA xi))), (rp, .inl (cI, 256, .inl (zA xp))), (rs, .inl (cI, 4096, .inl (zA xs))), (ro, .inl (cI, 6000, .inl (zA xo1_78)))] := jD.sub [4, 0, 1, 2, 3] (by decide) rfl
              exact jret _ _ _ (((((ecB xp xs o xi (iL - 1).toNat (iL - 1 - go).toNat) : Int) + 7) / 8), ((ecB xp xs o xi (iL - 1).toNat (iL - 1 - go).toNat) : Int), xo1_78) _ _ (Or.inl rfl) (Or.inr (Or.inr (Or.inr (Or.inr ⟨rfl, ho0, hlt, hall, by omega, show (((ecB xp xs o xi (iL - 1).toNat (iL - 1 - go).toNat) : Int) + 7) / 8 = ((((ecB xp xs o xi (iL - 1).toNat (iL - 1 - go).toNat) + 7) / 8 : Nat) : Int) by omega, hq78⟩)))) (jP.sub [0, 1, 2, 3, 4] rfl) (jD.sub [0, 1, 2, 3, 4] (by decide) rfl) jS d_Mod_encode_86
            ·
              refine lv_bipush (v := iZ (-4)) jx jb d_Mod_encode_69 (by decide) ?_
              exact jret _ _ _ (oL, bP, xo) _ _ (Or.inl rfl) (Or.inr (Or.inr (Or.inr (Or.inl ⟨rfl, ho0, hlt, hall, by omega, rfl, rfl⟩)))) (jP.sub [0, 1, 2, 3, 4] rfl) (jD.sub [0, 1, 2, 3, 4] (by decide) rfl) jS d_Mod_encode_71
          ·
            refine lv_aload_n jx jb d_Mod_encode_36 rfl (lv_at jl 0 rfl) ?_
            refine va_get (D := D) (ci := 4) (v := .ref rp) (C := R_Mod) (T := F_Mod) (N := 14) jx jb jts i_Mod jown jK.1 jP 0 rfl rfl 7 (by decide) (jts _ fl_Mod_19) (fun _ h9 => h9) rfl d_Mod_encode_37 ?_
            refine lv_aload_n jx jb d_Mod_encode_40 rfl (lv_at jl 0 rfl) ?_
            refine va_get (D := D) (ci := 4) (v := .ref ri) (C := R_Mod) (T := F_Mod) (N := 14) jx jb jts i_Mod jown jK.1 jP 0 rfl rfl 0 (by decide) (jts _ fl_Mod_7) (fun _ h9 => h9) rfl d_Mod_encode_41 ?_
            refine lv_iload_n jx jb d_Mod_encode_44 rfl (lv_at jl 1 rfl) ?_
            refine z_iald jx jb jK.1 jP 1 0 rfl rfl i (by omega) d_Mod_encode_45 ?_
            have hxq := hxi i (by omega)
            have hpi := hpr (xi i).toNat (by omega)
            refine z_iald jx jb jK.1 jP 2 0 rfl rfl ((xi i).toNat) (by omega) d_Mod_encode_46 ?_
            refine z_if_ne (tgt := 53) jx jb d_Mod_encode_47 (by decide) ⟨by omega, by omega⟩ (fun hc47 => ?_) (fun hc47 => ?_)
            ·
              refine lv_iinc (v := iZ ((i : Int) + 1)) (lv' := [(1, .int (iZ ((i : Int) + 1))), (0, .ref r)]) jx jb d_Mod_encode_53 jl (k := 1) rfl (iZ_add _ _) (by decide) rfl (fun ls jl => ?_)
              refine lv_goto (tgt := 28) jx jb d_Mod_encode_56 (by decide) ?_
              exact ih28 (i + 1) (by omega) (by omega) (aw_m h0 hc47) _ _ (jP.sub [0, 1, 2, 3, 4] rfl) (jD.sub [0, 1, 2, 3, 4] (by decide) rfl) jS _ (lv_sub jl [1, 0] rfl)
            ·
              refine lv_bipush (v := iZ (-3)) jx jb d_Mod_encode_50 (by decide) ?_
              exact jret _ _ _ (oL, bP, xo) _ _ (Or.inl rfl) (Or.inr (Or.inr (Or.inl ⟨rfl, ho0, hlt, ⟨i, by omega, by omega, hc47⟩, rfl, rfl⟩))) (jP.sub [0, 1, 2, 3, 4] rfl) (jD.sub [0, 1, 2, 3, 4] (by decide) rfl) jS d_Mod_encode_52
      exact hloop28 ((iL.toNat - go.toNat) + 1) go.toNat (Nat.lt_succ_self _) (by omega) (fun k q1 q2 => absurd q1 (by omega)) _ _ (jP.sub [0, 1, 2, 3, 4] rfl) (jD.sub [0, 1, 2, 3, 4] (by decide) rfl) jS _ (lv_sub jl [1, 0] rfl)
    ·
      refine lv_bipush (v := iZ (-2)) jx jb d_Mod_encode_20 (by decide) ?_
      exact jret _ _ _ (oL, bP, xo) _ _ (Or.inl rfl) (Or.inr (Or.inl ⟨rfl, ho0, hc17, rfl, rfl⟩)) (jP.sub [0, 1, 2, 3, 4] rfl) (jD.sub [0, 1, 2, 3, 4] (by decide) rfl) jS d_Mod_encode_22
  ·
    refine lv_iconst (v := iZ (-1)) jx jb d_Mod_encode_7 rfl ?_
    exact jret _ _ _ (oL, bP, xo) _ _ (Or.inl rfl) (Or.inl ⟨rfl, by omega, rfl, rfl⟩) (jP.sub [0, 1, 2, 3, 4] rfl) (jD.sub [0, 1, 2, 3, 4] (by decide) rfl) jS d_Mod_encode_8
