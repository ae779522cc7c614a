theorem cd_Mod_bitsAt : Cond.code y_Mod_bitsAt b_Mod_bitsAt 3 (some .int) ∈ zT := zT_of (List.mem_of_getElem? (i := 688) (by decide +kernel)) rfl
theorem hd_Mod_bitsAt : y_Mod_bitsAt.cls ≠ "java/lang/invoke/MethodHandle" ∧ y_Mod_bitsAt.cls ≠ "java/lang/invoke/VarHandle" ∧ (parseMethodDescriptor y_Mod_bitsAt.desc).map (fun d => d.parameters.length) = some 2 := by decide +kernel
theorem lk_Mod_135 : Cond.methodLink R_Mod 135 y_Mod_bitsAt ∈ zT := zT_of (List.mem_of_getElem? (i := 685) (by decide +kernel)) rfl
theorem im_Mod_bitsAt : Cond.instanceMethod y_Mod_bitsAt ∈ zT := zT_of (List.mem_of_getElem? (i := 687) (by decide +kernel)) rfl
theorem se_Mod_bitsAt : Cond.selects R_Mod y_Mod_bitsAt y_Mod_bitsAt ∈ zT := zT_of (List.mem_of_getElem? (i := 32) (by decide +kernel)) rfl
theorem cd_Mod_follow : Cond.code y_Mod_follow b_Mod_follow 8 (some .int) ∈ zT := zT_of (List.mem_of_getElem? (i := 692) (by decide +kernel)) rfl
theorem hd_Mod_follow : y_Mod_follow.cls ≠ "java/lang/invoke/MethodHandle" ∧ y_Mod_follow.cls ≠ "java/lang/invoke/VarHandle" ∧ (parseMethodDescriptor y_Mod_follow.desc).map (fun d => d.parameters.length) = some 3 := by decide +kernel
theorem lk_Mod_138 : Cond.methodLink R_Mod 138 y_Mod_follow ∈ zT := zT_of (List.mem_of_getElem? (i := 689) (by decide +kernel)) rfl
theorem im_Mod_follow : Cond.instanceMethod y_Mod_follow ∈ zT := zT_of (List.mem_of_getElem? (i := 691) (by decide +kernel)) rfl
theorem se_Mod_follow : Cond.selects R_Mod y_Mod_follow y_Mod_follow ∈ zT := zT_of (List.mem_of_getElem? (i := 33) (by decide +kernel)) rfl
theorem d_Mod_follow_0 : decode b_Mod_follow 0 = .ok (.iload_n 1, 1) := by decide +kernel
theorem d_Mod_follow_1 : decode b_Mod_follow 1 = .ok (.aload_n 0, 1) := by decide +kernel
theorem d_Mod_follow_2 : decode b_Mod_follow 2 = .ok (.getfield 50, 3) := by decide +kernel
theorem d_Mod_follow_5 : decode b_Mod_follow 5 = .ok (.isub, 1) := by decide +kernel
theorem d_Mod_follow_6 : decode b_Mod_follow 6 = .ok (.istore 4, 2) := by decide +kernel
theorem d_Mod_follow_8 : decode b_Mod_follow 8 = .ok (.iload 4, 2) := by decide +kernel
theorem d_Mod_follow_10 : decode b_Mod_follow 10 = .ok (.ifCond .ge 7, 3) := by decide +kernel
theorem d_Mod_follow_13 : decode b_Mod_follow 13 = .ok (.iconst 0, 1) := by decide +kernel
theorem d_Mod_follow_14 : decode b_Mod_follow 14 = .ok (.goto 13, 3) := by decide +kernel
theorem d_Mod_follow_17 : decode b_Mod_follow 17 = .ok (.aload_n 0, 1) := by decide +kernel
theorem d_Mod_follow_18 : decode b_Mod_follow 18 = .ok (.iload 4, 2) := by decide +kernel
theorem d_Mod_follow_20 : decode b_Mod_follow 20 = .ok (.aload_n 0, 1) := by decide +kernel
theorem d_Mod_follow_21 : decode b_Mod_follow 21 = .ok (.getfield 50, 3) := by decide +kernel
theorem d_Mod_follow_24 : decode b_Mod_follow 24 = .ok (.invokevirtual 135, 3) := by decide +kernel
theorem d_Mod_follow_27 : decode b_Mod_follow 27 = .ok (.istore 5, 2) := by decide +kernel
theorem d_Mod_follow_29 : decode b_Mod_follow 29 = .ok (.iconst 0, 1) := by decide +kernel
theorem d_Mod_follow_30 : decode b_Mod_follow 30 = .ok (.istore 6, 2) := by decide +kernel
theorem d_Mod_follow_32 : decode b_Mod_follow 32 = .ok (.iload 6, 2) := by decide +kernel
theorem d_Mod_follow_34 : decode b_Mod_follow 34 = .ok (.iload_n 2, 1) := by decide +kernel
theorem d_Mod_follow_35 : decode b_Mod_follow 35 = .ok (.if_icmp .ge 85, 3) := by decide +kernel
theorem d_Mod_follow_38 : decode b_Mod_follow 38 = .ok (.iload 4, 2) := by decide +kernel
theorem d_Mod_follow_40 : decode b_Mod_follow 40 = .ok (.ifCond .lt 80, 3) := by decide +kernel
theorem d_Mod_follow_43 : decode b_Mod_follow 43 = .ok (.iload_n 3, 1) := by decide +kernel
theorem d_Mod_follow_44 : decode b_Mod_follow 44 = .ok (.ifCond .eq 17, 3) := by decide +kernel
theorem d_Mod_follow_47 : decode b_Mod_follow 47 = .ok (.aload_n 0, 1) := by decide +kernel
theorem d_Mod_follow_48 : decode b_Mod_follow 48 = .ok (.getfield 13, 3) := by decide +kernel
theorem d_Mod_follow_51 : decode b_Mod_follow 51 = .ok (.iload 6, 2) := by decide +kernel
theorem d_Mod_follow_53 : decode b_Mod_follow 53 = .ok (.aload_n 0, 1) := by decide +kernel
theorem d_Mod_follow_54 : decode b_Mod_follow 54 = .ok (.getfield 22, 3) := by decide +kernel
theorem d_Mod_follow_57 : decode b_Mod_follow 57 = .ok (.iload 5, 2) := by decide +kernel
theorem d_Mod_follow_59 : decode b_Mod_follow 59 = .ok (.iaload, 1) := by decide +kernel
theorem d_Mod_follow_60 : decode b_Mod_follow 60 = .ok (.iastore, 1) := by decide +kernel
theorem d_Mod_follow_61 : decode b_Mod_follow 61 = .ok (.iload 6, 2) := by decide +kernel
theorem d_Mod_follow_63 : decode b_Mod_follow 63 = .ok (.iload_n 2, 1) := by decide +kernel
theorem d_Mod_follow_64 : decode b_Mod_follow 64 = .ok (.iconst 1, 1) := by decide +kernel
theorem d_Mod_follow_65 : decode b_Mod_follow 65 = .ok (.isub, 1) := by decide +kernel
theorem d_Mod_follow_66 : decode b_Mod_follow 66 = .ok (.if_icmp .ge 48, 3) := by decide +kernel
theorem d_Mod_follow_69 : decode b_Mod_follow 69 = .ok (.aload_n 0, 1) := by decide +kernel
theorem d_Mod_follow_70 : decode b_Mod_follow 70 = .ok (.iload 5, 2) := by decide +kernel
theorem d_Mod_follow_72 : decode b_Mod_follow 72 = .ok (.invokevirtual 115, 3) := by decide +kernel
theorem d_Mod_follow_75 : decode b_Mod_follow 75 = .ok (.istore 7, 2) := by decide +kernel
theorem d_Mod_follow_77 : decode b_Mod_follow 77 = .ok (.iload 4, 2) := by decide +kernel
theorem d_Mod_follow_79 : decode b_Mod_follow 79 = .ok (.aload_n 0, 1) := by decide +kernel
theorem d_Mod_follow_80 : decode b_Mod_follow 80 = .ok (.iload 7, 2) := by decide +kernel
theorem d_Mod_follow_82 : decode b_Mod_follow 82 = .ok (.invokevirtual 112, 3) := by decide +kernel
theorem d_Mod_follow_85 : decode b_Mod_follow 85 = .ok (.isub, 1) := by decide +kernel
theorem d_Mod_follow_86 : decode b_Mod_follow 86 = .ok (.istore 4, 2) := by decide +kernel
theorem d_Mod_follow_88 : decode b_Mod_follow 88 = .ok (.iload 4, 2) := by decide +kernel
theorem d_Mod_follow_90 : decode b_Mod_follow 90 = .ok (.ifCond .lt 24, 3) := by decide +kernel
theorem d_Mod_follow_93 : decode b_Mod_follow 93 = .ok (.aload_n 0, 1) := by decide +kernel
theorem d_Mod_follow_94 : decode b_Mod_follow 94 = .ok (.iload 7, 2) := by decide +kernel
theorem d_Mod_follow_96 : decode b_Mod_follow 96 = .ok (.invokevirtual 118, 3) := by decide +kernel
theorem d_Mod_follow_99 : decode b_Mod_follow 99 = .ok (.aload_n 0, 1) := by decide +kernel
theorem d_Mod_follow_100 : decode b_Mod_follow 100 = .ok (.iload 4, 2) := by decide +kernel
theorem d_Mod_follow_102 : decode b_Mod_follow 102 = .ok (.aload_n 0, 1) := by decide +kernel
theorem d_Mod_follow_103 : decode b_Mod_follow 103 = .ok (.iload 7, 2) := by decide +kernel
theorem d_Mod_follow_105 : decode b_Mod_follow 105 = .ok (.invokevirtual 112, 3) := by decide +kernel
theorem d_Mod_follow_108 : decode b_Mod_follow 108 = .ok (.invokevirtual 135, 3) := by decide +kernel
theorem d_Mod_follow_111 : decode b_Mod_follow 111 = .ok (.iadd, 1) := by decide +kernel
theorem d_Mod_follow_112 : decode b_Mod_follow 112 = .ok (.istore 5, 2) := by decide +kernel
theorem d_Mod_follow_114 : decode b_Mod_follow 114 = .ok (.iinc 6 1, 3) := by decide +kernel
theorem d_Mod_follow_117 : decode b_Mod_follow 117 = .ok (.goto (-85), 3) := by decide +kernel
theorem d_Mod_follow_120 : decode b_Mod_follow 120 = .ok (.iload 4, 2) := by decide +kernel
theorem d_Mod_follow_122 : decode b_Mod_follow 122 = .ok (.ireturn, 1) := by decide +kernel
theorem d_Mod_decode_0 : decode b_Mod_decode 0 = .ok (.aload_n 0, 1) := by decide +kernel
theorem d_Mod_decode_1 : decode b_Mod_decode 1 = .ok (.getfield 50, 3) := by decide +kernel
theorem d_Mod_decode_4 : decode b_Mod_decode 4 = .ok (.ifCond .eq 15, 3) := by decide +kernel
theorem d_Mod_decode_7 : decode b_Mod_decode 7 = .ok (.iload_n 1, 1) := by decide +kernel
theorem d_Mod_decode_8 : decode b_Mod_decode 8 = .ok (.iconst 1, 1) := by decide +kernel
theorem d_Mod_decode_9 : decode b_Mod_decode 9 = .ok (.if_icmp .lt 10, 3) := by decide +kernel
theorem d_Mod_decode_12 : decode b_Mod_decode 12 = .ok (.iload_n 1, 1) := by decide +kernel
theorem d_Mod_decode_13 : decode b_Mod_decode 13 = .ok (.sipush 6000, 3) := by decide +kernel
theorem d_Mod_decode_16 : decode b_Mod_decode 16 = .ok (.if_icmp .le 5, 3) := by decide +kernel
theorem d_Mod_decode_19 : decode b_Mod_decode 19 = .ok (.iconst (-1), 1) := by decide +kernel
theorem d_Mod_decode_20 : decode b_Mod_decode 20 = .ok (.ireturn, 1) := by decide +kernel
theorem d_Mod_decode_21 : decode b_Mod_decode 21 = .ok (.aload_n 0, 1) := by decide +kernel
theorem d_Mod_decode_22 : decode b_Mod_decode 22 = .ok (.getfield 42, 3) := by decide +kernel
theorem d_Mod_decode_25 : decode b_Mod_decode 25 = .ok (.aload_n 0, 1) := by decide +kernel
theorem d_Mod_decode_26 : decode b_Mod_decode 26 = .ok (.getfield 35, 3) := by decide +kernel
theorem d_Mod_decode_29 : decode b_Mod_decode 29 = .ok (.if_icmp .eq 17, 3) := by decide +kernel
theorem d_Mod_decode_32 : decode b_Mod_decode 32 = .ok (.aload_n 0, 1) := by decide +kernel
theorem d_Mod_decode_33 : decode b_Mod_decode 33 = .ok (.getfield 7, 3) := by decide +kernel
theorem d_Mod_decode_36 : decode b_Mod_decode 36 = .ok (.aload_n 0, 1) := by decide +kernel
theorem d_Mod_decode_37 : decode b_Mod_decode 37 = .ok (.getfield 35, 3) := by decide +kernel
theorem d_Mod_decode_40 : decode b_Mod_decode 40 = .ok (.iconst 1, 1) := by decide +kernel
theorem d_Mod_decode_41 : decode b_Mod_decode 41 = .ok (.isub, 1) := by decide +kernel
theorem d_Mod_decode_42 : decode b_Mod_decode 42 = .ok (.iaload, 1) := by decide +kernel
theorem d_Mod_decode_43 : decode b_Mod_decode 43 = .ok (.ifCond .ne 6, 3) := by decide +kernel
theorem d_Mod_decode_46 : decode b_Mod_decode 46 = .ok (.bipush (-2), 2) := by decide +kernel
theorem d_Mod_decode_48 : decode b_Mod_decode 48 = .ok (.ireturn, 1) := by decide +kernel
theorem d_Mod_decode_49 : decode b_Mod_decode 49 = .ok (.bipush 8, 2) := by decide +kernel
theorem d_Mod_decode_51 : decode b_Mod_decode 51 = .ok (.aload_n 0, 1) := by decide +kernel
theorem d_Mod_decode_52 : decode b_Mod_decode 52 = .ok (.getfield 35, 3) := by decide +kernel
theorem d_Mod_decode_55 : decode b_Mod_decode 55 = .ok (.aload_n 0, 1) := by decide +kernel
theorem d_Mod_decode_56 : decode b_Mod_decode 56 = .ok (.getfield 42, 3) := by decide +kernel
theorem d_Mod_decode_59 : decode b_Mod_decode 59 = .ok (.isub, 1) := by decide +kernel
theorem d_Mod_decode_60 : decode b_Mod_decode 60 = .ok (.imul, 1) := by decide +kernel
theorem d_Mod_decode_61 : decode b_Mod_decode 61 = .ok (.iconst 1, 1) := by decide +kernel
theorem d_Mod_decode_62 : decode b_Mod_decode 62 = .ok (.isub, 1) := by decide +kernel
theorem d_Mod_decode_63 : decode b_Mod_decode 63 = .ok (.istore_n 2, 1) := by decide +kernel
theorem d_Mod_decode_64 : decode b_Mod_decode 64 = .ok (.aload_n 0, 1) := by decide +kernel
theorem d_Mod_decode_65 : decode b_Mod_decode 65 = .ok (.iload_n 2, 1) := by decide +kernel
theorem d_Mod_decode_66 : decode b_Mod_decode 66 = .ok (.iconst 1, 1) := by decide +kernel
theorem d_Mod_decode_67 : decode b_Mod_decode 67 = .ok (.invokevirtual 135, 3) := by decide +kernel
theorem d_Mod_decode_70 : decode b_Mod_decode 70 = .ok (.ifCond .ne 9, 3) := by decide +kernel
theorem d_Mod_decode_73 : decode b_Mod_decode 73 = .ok (.iinc 2 (-1), 3) := by decide +kernel
theorem d_Mod_decode_76 : decode b_Mod_decode 76 = .ok (.goto (-12), 3) := by decide +kernel
theorem d_Mod_decode_79 : decode b_Mod_decode 79 = .ok (.aload_n 0, 1) := by decide +kernel
theorem d_Mod_decode_80 : decode b_Mod_decode 80 = .ok (.iload_n 2, 1) := by decide +kernel
theorem d_Mod_decode_81 : decode b_Mod_decode 81 = .ok (.iload_n 1, 1) := by decide +kernel
theorem d_Mod_decode_82 : decode b_Mod_decode 82 = .ok (.iconst 0, 1) := by decide +kernel
theorem d_Mod_decode_83 : decode b_Mod_decode 83 = .ok (.invokevirtual 138, 3) := by decide +kernel
theorem d_Mod_decode_86 : decode b_Mod_decode 86 = .ok (.istore_n 3, 1) := by decide +kernel
theorem d_Mod_decode_87 : decode b_Mod_decode 87 = .ok (.iload_n 3, 1) := by decide +kernel
theorem d_Mod_decode_88 : decode b_Mod_decode 88 = .ok (.ifCond .eq 15, 3) := by decide +kernel
theorem d_Mod_decode_91 : decode b_Mod_decode 91 = .ok (.iload_n 3, 1) := by decide +kernel
theorem d_Mod_decode_92 : decode b_Mod_decode 92 = .ok (.ifCond .ge 8, 3) := by decide +kernel
theorem d_Mod_decode_95 : decode b_Mod_decode 95 = .ok (.bipush (-3), 2) := by decide +kernel
theorem d_Mod_decode_97 : decode b_Mod_decode 97 = .ok (.goto 5, 3) := by decide +kernel
theorem d_Mod_decode_100 : decode b_Mod_decode 100 = .ok (.bipush (-4), 2) := by decide +kernel
theorem d_Mod_decode_102 : decode b_Mod_decode 102 = .ok (.ireturn, 1) := by decide +kernel
theorem d_Mod_decode_103 : decode b_Mod_decode 103 = .ok (.aload_n 0, 1) := by decide +kernel
theorem d_Mod_decode_104 : decode b_Mod_decode 104 = .ok (.iload_n 2, 1) := by decide +kernel
theorem d_Mod_decode_105 : decode b_Mod_decode 105 = .ok (.iload_n 1, 1) := by decide +kernel
theorem d_Mod_decode_106 : decode b_Mod_decode 106 = .ok (.iconst 1, 1) := by decide +kernel
theorem d_Mod_decode_107 : decode b_Mod_decode 107 = .ok (.invokevirtual 138, 3) := by decide +kernel
theorem d_Mod_decode_110 : decode b_Mod_decode 110 = .ok (.pop, 1) := by decide +kernel
theorem d_Mod_decode_111 : decode b_Mod_decode 111 = .ok (.aload_n 0, 1) := by decide +kernel
theorem d_Mod_decode_112 : decode b_Mod_decode 112 = .ok (.iload_n 1, 1) := by decide +kernel
theorem d_Mod_decode_113 : decode b_Mod_decode 113 = .ok (.putfield 39, 3) := by decide +kernel
theorem d_Mod_decode_116 : decode b_Mod_decode 116 = .ok (.iload_n 1, 1) := by decide +kernel
theorem d_Mod_decode_117 : decode b_Mod_decode 117 = .ok (.ireturn, 1) := by decide +kernel
abbrev rm_M_followF : Room := { frames := 2, cells := 0, slots := 0, locals := 46 }
set_option maxHeartbeats 4000000 in
set_option maxRecDepth 100000 in
theorem c_M_followF (l : Launch) (D : va_G) (cI cB cZ : ClassId) (sz : Nat) (r : Nat) (ri : Nat) (ro : Nat) (rc : Nat) (rp : Nat) (rs : Nat) (rd : Nat) (rk : Nat) (rh : Nat) (iL : Int) (go : Int) (oL : Int) (o : Nat) (bP : Int) (bR : Int) (xi : Nat → Int) (xp : Nat → Int) (xs : Nat → Int) (y : Int) (x : Int) (hiL : 0 ≤ iL ∧ iL ≤ 6000) (hgo : 0 ≤ go ∧ go < iL) (hxi : ∀ k, k < 6000 → 0 ≤ xi k ∧ xi k < 256) (hpr : ∀ k, k < 256 → -1 ≤ xp k ∧ xp k ≤ 65536) (hxs : ∀ k, k < 4096 → 0 ≤ xs k ∧ xs k < 256) (ho : 5 ≤ o ∧ o ≤ 12) (hnum : ∀ k : Nat, (k : Int) < 2 ^ o → 1 ≤ nmb xp xs k ∧ nmb xp xs k < 2 ^ (o + 1)) (hy : 0 ≤ y ∧ y < 8 * (iL - go)) (hx1 : 1 ≤ x ∧ x ≤ 6000) : Met l y_Mod_follow (.code y_Mod_follow b_Mod_follow 8 (some .int) :: zT) rm_M_followF (zPc D classes (TY cI cB cZ) [(r, .inr (4, [.ref ri, .int (iZ iL), .int (iZ go), .ref ro, .int (iZ oL), .ref rc, .int (iZ (o : Int)), .ref rp, .ref rs, .ref rd, .ref rk, .ref rh, .int (iZ bP), .int (iZ bR)])), (ri, .inl (cI, 6000, .inl (zA xi))), (rp, .inl (cI, 256, .inl (zA xp))), (rs, .inl (cI, 4096, .inl (zA xs)))] sz [.ref r, .int (iZ y), .int (iZ x), .int (iZ 0)]) (zFi (S := Int) D classes (fun z u => (-100 ≤ z ∧ z ≤ 100000) ∧ ((z < 0 ∧ (dcS xp xs o xi (8 * go.toNat) (y - (o : Int)) (x.toNat - 1)).1 < 0) ∨ (0 ≤ z ∧ z = (dcS xp xs o xi (8 * go.toNat) (y - (o : Int)) (x.toNat - 1)).1))) (fun u => [(r, .inr (4, [.ref ri, .int (iZ iL), .int (iZ go), .ref ro, .int (iZ oL), .ref rc, .int (iZ (o : Int)), .ref rp, .ref rs, .ref rd, .ref rk, .ref rh, .int (iZ bP), .int (iZ u)])), (ri, .inl (cI, 6000, .inl (zA xi))), (rp, .inl (cI, 256, .inl (zA xp))), (rs, .inl (cI, 4096, .inl (zA xs)))]) (va_A [(r, .inr (4, [.ref ri, .int (iZ iL), .int (iZ go), .ref ro, .int (iZ oL), .ref rc, .int (iZ (o : Int)), .ref rp, .ref rs, .ref rd, .ref rk, .ref rh, .int (iZ bP), .int (iZ bR)])), (ri, .inl (cI, 6000, .inl (zA xi))), (rp, .inl (cI, 256, .inl (zA xp))), (rs, .inl (cI, 4096, .inl (zA xs)))] sz)) 0 0 (va_A [(r, .inr (4, [.ref ri, .int (iZ iL), .int (iZ go), .ref ro, .int (iZ oL), .ref rc, .int (iZ (o : Int)), .ref rp, .ref rs, .ref rd, .ref rk, .ref rh, .int (iZ bP), .int (iZ bR)])), (ri, .inl (cI, 6000, .inl (zA xi))), (rp, .inl (cI, 256, .inl (zA xp))), (rs, .inl (cI, 4096, .inl (zA xs)))] sz) := by
  refine z_ofi (by decide) (Nat.le_of_ble_eq_true rfl) (Or.inl rfl) ?_
  intro p e s m args below meth c A Q E jA jK jret H locs jP jD jS ls jl
  obtain ⟨jx, jb, jrt, jml, jown, jts, jlk⟩ := E
  have jown : s.vm.findClass R_Mod = some m.cls := jown
  have hp12 := p2_le ho.2
  have hp13 := p2_le (show o + 1 ≤ 13 by omega)
  have hp0 := p2_pos o
  have h00 := dc_00 (gP := xp) (gS := xs) (o := o) (b := xi) (q0 := 8 * go.toNat) (u0 := (y - (o : Int)))
  have hst0 := dc_st (b := xi) (q0 := 8 * go.toNat) (u0 := (y - (o : Int))) (j := 0) hnum
  have jl : lv_has ls 8 [(0, .ref r), (1, .int (iZ y)), (2, .int (iZ x)), (3, .int (iZ 0))] := jl
  refine lv_iload_n jx jb d_Mod_follow_0 rfl (lv_at jl 1 rfl) ?_
  refine lv_aload_n jx jb d_Mod_follow_1 rfl (lv_at jl 0 rfl) ?_
  refine va_get (D := D) (ci := 4) (v := .int (iZ (o : Int))) (C := R_Mod) (T := F_Mod) (N := 14) jx jb jts i_Mod jown jK.1 jP 0 rfl rfl 6 (by decide) (jts _ fl_Mod_50) (fun _ h9 => h9) rfl d_Mod_follow_2 ?_
  refine z_isub jx jb d_Mod_follow_5 ?_
  refine z_top ((dcS xp xs o xi (8 * go.toNat) (y - (o : Int)) 0).1) (rfl) ?_
  refine lv_istore (lv' := [(4, .int (iZ ((dcS xp xs o xi (8 * go.toNat) (y - (o : Int)) 0).1))), (0, .ref r), (1, .int (iZ y)), (2, .int (iZ x)), (3, .int (iZ 0))]) jx jb d_Mod_follow_6 jl (by decide) rfl (fun ls jl => ?_)
  refine lv_iload jx jb d_Mod_follow_8 (lv_at jl 0 rfl) ?_
  have hjoin27 : ∀ (v : Int) (bR2 : Int), (0 ≤ (dcS xp xs o xi (8 * go.toNat) (y - (o : Int)) 0).1 → v = ((dcS xp xs o xi (8 * go.toNat) (y - (o : Int)) 0).2 : Int)) → ∀ (H : Heap) (locs : List Loc), va_P D classes [(r, .inr (4, [.ref ri, .int (iZ iL), .int (iZ go), .ref ro, .int (iZ oL), .ref rc, .int (iZ (o : Int)), .ref rp, .ref rs, .ref rd, .ref rk, .ref rh, .int (iZ bP), .int (iZ bR2)])), (ri, .inl (cI, 6000, .inl (zA xi))), (rp, .inl (cI, 256, .inl (zA xp))), (rs, .inl (cI, 4096, .inl (zA xs)))] H → va_D A [(r, .inr (4, [.ref ri, .int (iZ iL), .int (iZ go), .ref ro, .int (iZ oL), .ref rc, .int (iZ (o : Int)), .ref rp, .ref rs, .ref rd, .ref rk, .ref rh, .int (iZ bP), .int (iZ bR2)])), (ri, .inl (cI, 6000, .inl (zA xi))), (rp, .inl (cI, 256, .inl (zA xp))), (rs, .inl (cI, 4096, .inl (zA xs)))] → va_S A s.heap H locs → ∀ ls : Array Slot, lv_has ls 8 [(0, .ref r), (1, .int (iZ y)), (2, .int (iZ x)), (3, .int (iZ 0)), (4, .int (iZ ((dcS xp xs o xi (8 * go.toNat) (y - (o : Int)) 0).1)))] → W p l e rm_M_followF s m args below meth c H locs 0 0 Q (F0 m 27 ls [.int (iZ v)]) := by
    intro v bR2 hv0 H locs jP jD jS ls jl
    refine lv_istore (lv' := [(5, .int (iZ v)), (0, .ref r), (1, .int (iZ y)), (2, .int (iZ x)), (3, .int (iZ 0)), (4, .int (iZ ((dcS xp xs o xi (8 * go.toNat) (y - (o : Int)) 0).1)))]) jx jb d_Mod_follow_27 jl (by decide) rfl (fun ls jl => ?_)
    refine lv_iconst (v := iZ 0) jx jb d_Mod_follow_29 rfl ?_
    refine lv_istore (lv' := [(6, .int (iZ 0)), (5, .int (iZ v)), (0, .ref r), (1, .int (iZ y)), (2, .int (iZ x)), (3, .int (iZ 0)), (4, .int (iZ ((dcS xp xs o xi (8 * go.toNat) (y - (o : Int)) 0).1)))]) jx jb d_Mod_follow_30 jl (by decide) rfl (fun ls jl => ?_)
    have hloop32 : ∀ (nF : Nat) (m1 : Nat) (i : Nat) (v : Int) (bR2 : Int), x.toNat - i < nF → ((m1 = i ∧ (i : Int) < x) ∨ ((m1 : Int) + 1 = x ∧ (i : Int) = x)) → (-12 ≤ (dcS xp xs o xi (8 * go.toNat) (y - (o : Int)) m1).1) → (0 ≤ (dcS xp xs o xi (8 * go.toNat) (y - (o : Int)) m1).1 → v = ((dcS xp xs o xi (8 * go.toNat) (y - (o : Int)) m1).2 : Int)) → ∀ (H : Heap) (locs : List Loc), va_P D classes [(r, .inr (4, [.ref ri, .int (iZ iL), .int (iZ go), .ref ro, .int (iZ oL), .ref rc, .int (iZ (o : Int)), .ref rp, .ref rs, .ref rd, .ref rk, .ref rh, .int (iZ bP), .int (iZ bR2)])), (ri, .inl (cI, 6000, .inl (zA xi))), (rp, .inl (cI, 256, .inl (zA xp))), (rs, .inl (cI, 4096, .inl (zA xs)))] H → va_D A [(r, .inr (4, [.ref ri, .int (iZ iL), .int (iZ go), .ref ro, .int (iZ oL), .ref rc, .int (iZ (o : Int)), .ref rp, .ref rs, .ref rd, .ref rk, .ref rh, .int (iZ bP), .int (iZ bR2)])), (ri, .inl (cI, 6000, .inl (zA xi))), (rp, .inl (cI, 256, .inl (zA xp))), (rs, .inl (cI, 4096, .inl (zA xs)))] → va_S A s.heap H locs → ∀ ls : Array Slot, lv_has ls 8 [(0, .ref r), (1, .int (iZ y)), (2, .int (iZ x)), (3, .int (iZ 0)), (4, .int (iZ ((dcS xp xs o xi (8 * go.toNat) (y - (o : Int)) m1).1))), (5, .int (iZ v)), (6, .int (iZ (i : Int)))] → W p l e rm_M_followF s m args below meth c H locs 0 0 Q (F0 m 32 ls []) := by
      intro nF
      induction nF with
      | zero => intro m1 i v bR2 hm; exact absurd hm (Nat.not_lt_zero _)
      | succ nF ih32 =>
        intro m1 i v bR2 hm hm1 hlo hv H locs jP jD jS ls jl
        refine lv_iload jx jb d_Mod_follow_32 (lv_at jl 6 rfl) ?_
        refine lv_iload_n jx jb d_Mod_follow_34 rfl (lv_at jl 2 rfl) ?_
        refine z_icmp_ge (tgt := 120) jx jb d_Mod_follow_35 (by decide) ⟨⟨by omega, by omega⟩, ⟨by omega, by omega⟩⟩ (fun hc35 => ?_) (fun hc35 => ?_)
        ·
          have hm0 := dc_mono (gP := xp) (gS := xs) (o := o) (b := xi) (q0 := 8 * go.toNat) (u0 := (y - (o : Int))) (i := 0) (j := m1) (Nat.zero_le _)
          refine lv_iload jx jb d_Mod_follow_120 (lv_at jl 4 rfl) ?_
          exact jret _ _ _ (bR2) _ _ (Or.inl rfl) (⟨by omega, fo_post hm1 (by first | exact Or.inl hc35 | exact Or.inr hc40)⟩) (jP.sub [0, 1, 2, 3] rfl) (jD.sub [0, 1, 2, 3] (by decide) rfl) jS d_Mod_follow_122
        ·
          have hm0 := dc_mono (gP := xp) (gS := xs) (o := o) (b := xi) (q0 := 8 * go.toNat) (u0 := (y - (o : Int))) (i := 0) (j := m1) (Nat.zero_le _)
          have hst := dc_st (b := xi) (q0 := 8 * go.toNat) (u0 := (y - (o : Int))) (j := m1) hnum
          have hnk := hnum _ hst
          have hba := bA_b hnk.1 hnk.2
          have hs1 := dc_s1 (gP := xp) (gS := xs) (o := o) (b := xi) (q0 := 8 * go.toNat) (u0 := (y - (o : Int))) (j := m1)
          have hst1 := dc_st (b := xi) (q0 := 8 * go.toNat) (u0 := (y - (o : Int))) (j := (m1 + 1)) hnum
          refine lv_iload jx jb d_Mod_follow_38 (lv_at jl 4 rfl) ?_
          refine z_if_lt (tgt := 120) jx jb d_Mod_follow_40 (by decide) ⟨by omega, by omega⟩ (fun hc40 => ?_) (fun hc40 => ?_)
          ·
            have hm0 := dc_mono (gP := xp) (gS := xs) (o := o) (b := xi) (q0 := 8 * go.toNat) (u0 := (y - (o : Int))) (i := 0) (j := m1) (Nat.zero_le _)
            refine lv_iload jx jb d_Mod_follow_120 (lv_at jl 4 rfl) ?_
            exact jret _ _ _ (bR2) _ _ (Or.inl rfl) (⟨by omega, fo_post hm1 (by first | exact Or.inl hc35 | exact Or.inr hc40)⟩) (jP.sub [0, 1, 2, 3] rfl) (jD.sub [0, 1, 2, 3] (by decide) rfl) jS d_Mod_follow_122
          ·
            refine lv_iload_n jx jb d_Mod_follow_43 rfl (lv_at jl 3 rfl) ?_
            refine z_if_eq (tgt := 61) jx jb d_Mod_follow_44 (by decide) ⟨by decide, by decide⟩ (fun hc44 => ?_) (fun hc44 => ?_)
            ·
              refine lv_iload jx jb d_Mod_follow_61 (lv_at jl 6 rfl) ?_
              refine lv_iload_n jx jb d_Mod_follow_63 rfl (lv_at jl 2 rfl) ?_
              refine lv_iconst (v := iZ 1) jx jb d_Mod_follow_64 rfl ?_
              refine z_isub jx jb d_Mod_follow_65 ?_
              refine z_icmp_ge (tgt := 114) jx jb d_Mod_follow_66 (by decide) ⟨⟨by omega, by omega⟩, ⟨by omega, by omega⟩⟩ (fun hc66 => ?_) (fun hc66 => ?_)
              ·
                refine lv_iinc (v := iZ ((i + 1 : Nat) : Int)) (lv' := [(6, .int (iZ ((i + 1 : Nat) : Int))), (0, .ref r), (1, .int (iZ y)), (2, .int (iZ x)), (3, .int (iZ 0)), (4, .int (iZ ((dcS xp xs o xi (8 * go.toNat) (y - (o : Int)) m1).1))), (5, .int (iZ v))]) jx jb d_Mod_follow_114 jl (k := 6) rfl (by rw [show ((i + 1 : Nat) : Int) = (i : Int) + 1 from by omega]; exact iZ_add _ _) (by decide) rfl (fun ls jl => ?_)
                refine lv_goto (tgt := 32) jx jb d_Mod_follow_117 (by decide) ?_
                exact ih32 m1 (i + 1 : Nat) v bR2 (by omega) (by omega) (by first | assumption | omega) (hv) _ _ (jP.sub [0, 1, 2, 3] rfl) (jD.sub [0, 1, 2, 3] (by decide) rfl) jS _ (lv_sub jl [1, 2, 3, 4, 5, 6, 0] rfl)
              ·
                refine lv_aload_n jx jb d_Mod_follow_69 rfl (lv_at jl 0 rfl) ?_
                refine lv_iload jx jb d_Mod_follow_70 (lv_at jl 5 rfl) ?_
                refine z_top ((dcS xp xs o xi (8 * go.toNat) (y - (o : Int)) m1).2 : Int) (hv (by omega)) ?_
                refine z_backe (va_runV (As := [.int (iZ ((dcS xp xs o xi (8 * go.toNat) (y - (o : Int)) m1).2 : Int))]) (rest := []) ⟨jx, jb, jml, jown, jts⟩ (c_M_numberOf l D cI cB cZ r ri ro rc rp rs rd rk rh iL go oL o bP bR2 xp xs ((dcS xp xs o xi (8 * go.toNat) (y - (o : Int)) m1).2) (by first | assumption | omega) (by first | assumption | omega) (by omega)) (zc_V 1 jts cd_Mod_numberOf lk_Mod_115 im_Mod_numberOf se_Mod_numberOf in_Mod hd_Mod_numberOf ⟨Nat.le_of_ble_eq_true rfl, Nat.le_of_ble_eq_true rfl⟩ rfl rfl) (z_preVR jK jP [0, 2, 3] rfl rfl rfl) rfl rfl jl.1 rfl (lv_room (Nat.le_of_ble_eq_true rfl)) d_Mod_follow_72 ⟨Nat.le_of_ble_eq_true rfl, Nat.le_of_ble_eq_true rfl⟩) ?_
                refine z_top (nmb xp xs (dcS xp xs o xi (8 * go.toNat) (y - (o : Int)) m1).2) (rfl) ?_
                refine lv_istore (lv' := [(7, .int (iZ (nmb xp xs (dcS xp xs o xi (8 * go.toNat) (y - (o : Int)) m1).2))), (0, .ref r), (1, .int (iZ y)), (2, .int (iZ x)), (3, .int (iZ 0)), (4, .int (iZ ((dcS xp xs o xi (8 * go.toNat) (y - (o : Int)) m1).1))), (5, .int (iZ v)), (6, .int (iZ (i : Int)))]) jx jb d_Mod_follow_75 jl (by decide) rfl (fun ls jl => ?_)
                refine lv_iload jx jb d_Mod_follow_77 (lv_at jl 5 rfl) ?_
                refine lv_aload_n jx jb d_Mod_follow_79 rfl (lv_at jl 1 rfl) ?_
                refine lv_iload jx jb d_Mod_follow_80 (lv_at jl 0 rfl) ?_
                refine z_backe (va_runV (As := [.int (iZ (nmb xp xs (dcS xp xs o xi (8 * go.toNat) (y - (o : Int)) m1).2))]) (rest := [.int (iZ ((dcS xp xs o xi (8 * go.toNat) (y - (o : Int)) m1).1))]) ⟨jx, jb, jml, jown, jts⟩ (c_M_bitsOf l D cI cB cZ r ri ro rc rp rs rd rk rh iL go oL o bP bR2 (nmb xp xs (dcS xp xs o xi (8 * go.toNat) (y - (o : Int)) m1).2) (ho.2) (by omega)) (zc_V 1 jts cd_Mod_bitsOf lk_Mod_112 im_Mod_bitsOf se_Mod_bitsOf in_Mod hd_Mod_bitsOf ⟨Nat.le_of_ble_eq_true rfl, Nat.le_of_ble_eq_true rfl⟩ rfl rfl) (z_preVR jK jP [0] rfl rfl rfl) rfl rfl jl.1 rfl (lv_room (Nat.le_of_ble_eq_true rfl)) d_Mod_follow_82 ⟨Nat.le_of_ble_eq_true rfl, Nat.le_of_ble_eq_true rfl⟩) ?_
                refine z_top (bW xp xs o (dcS xp xs o xi (8 * go.toNat) (y - (o : Int)) m1).2 : Int) (bW_i hnk) ?_
                refine z_isub jx jb d_Mod_follow_85 ?_
                refine z_top ((dcS xp xs o xi (8 * go.toNat) (y - (o : Int)) (m1 + 1)).1) (rfl) ?_
                refine lv_istore (lv' := [(4, .int (iZ ((dcS xp xs o xi (8 * go.toNat) (y - (o : Int)) (m1 + 1)).1))), (7, .int (iZ (nmb xp xs (dcS xp xs o xi (8 * go.toNat) (y - (o : Int)) m1).2))), (0, .ref r), (1, .int (iZ y)), (2, .int (iZ x)), (3, .int (iZ 0)), (5, .int (iZ v)), (6, .int (iZ (i : Int)))]) jx jb d_Mod_follow_86 jl (by decide) rfl (fun ls jl => ?_)
                refine lv_iload jx jb d_Mod_follow_88 (lv_at jl 0 rfl) ?_
                refine z_if_lt (tgt := 114) jx jb d_Mod_follow_90 (by decide) ⟨by omega, by omega⟩ (fun hc90 => ?_) (fun hc90 => ?_)
                ·
                  refine lv_iinc (v := iZ ((i + 1 : Nat) : Int)) (lv' := [(6, .int (iZ ((i + 1 : Nat) : Int))), (4, .int (iZ ((dcS xp xs o xi (8 * go.toNat) (y - (o : Int)) (m1 + 1)).1))), (7, .int (iZ (nmb xp xs (dcS xp xs o xi (8 * go.toNat) (y - (o : Int)) m1).2))), (0, .ref r), (1, .int (iZ y)), (2, .int (iZ x)), (3, .int (iZ 0)), (5, .int (iZ v))]) jx jb d_Mod_follow_114 jl (k := 7) rfl (by rw [show ((i + 1 : Nat) : Int) = (i : Int) + 1 from by omega]; exact iZ_add _ _) (by decide) rfl (fun ls jl => ?_)
                  refine lv_goto (tgt := 32) jx jb d_Mod_follow_117 (by decide) ?_
                  exact ih32 (m1 + 1) (i + 1 : Nat) v bR2 (by omega) (by omega) (by first | assumption | omega) (fun q => absurd hc90 (by omega)) _ _ (jP.sub [0, 1, 2, 3] rfl) (jD.sub [0, 1, 2, 3] (by decide) rfl) jS _ (lv_sub jl [3, 4, 5, 6, 1, 7, 0] rfl)
                ·
                  refine lv_aload_n jx jb d_Mod_follow_93 rfl (lv_at jl 2 rfl) ?_
                  refine lv_iload jx jb d_Mod_follow_94 (lv_at jl 1 rfl) ?_
                  refine z_backe (va_runV (As := [.int (iZ (nmb xp xs (dcS xp xs o xi (8 * go.toNat) (y - (o : Int)) m1).2))]) (rest := []) ⟨jx, jb, jml, jown, jts⟩ (c_M_baseOf l D cI cB cZ r ri ro rc rp rs rd rk rh iL go oL o bP bR2 (nmb xp xs (dcS xp xs o xi (8 * go.toNat) (y - (o : Int)) m1).2) (ho.2) (hnk)) (zc_V 1 jts cd_Mod_baseOf lk_Mod_118 im_Mod_baseOf se_Mod_baseOf in_Mod hd_Mod_baseOf ⟨Nat.le_of_ble_eq_true rfl, Nat.le_of_ble_eq_true rfl⟩ rfl rfl) (z_preVR jK jP [0] rfl rfl rfl) rfl rfl jl.1 rfl (lv_room (Nat.le_of_ble_eq_true rfl)) d_Mod_follow_96 ⟨Nat.le_of_ble_eq_true rfl, Nat.le_of_ble_eq_true rfl⟩) ?_
                  refine z_top (bA xp xs o (dcS xp xs o xi (8 * go.toNat) (y - (o : Int)) m1).2) (rfl) ?_
                  refine lv_aload_n jx jb d_Mod_follow_99 rfl (lv_at jl 2 rfl) ?_
                  refine lv_iload jx jb d_Mod_follow_100 (lv_at jl 0 rfl) ?_
                  refine z_top (((dcS xp xs o xi (8 * go.toNat) (y - (o : Int)) (m1 + 1)).1.toNat : Nat) : Int) (by omega) ?_
                  refine lv_aload_n jx jb d_Mod_follow_102 rfl (lv_at jl 2 rfl) ?_
                  refine lv_iload jx jb d_Mod_follow_103 (lv_at jl 1 rfl) ?_
                  refine z_backe (va_runV (As := [.int (iZ (nmb xp xs (dcS xp xs o xi (8 * go.toNat) (y - (o : Int)) m1).2))]) (rest := [.int (iZ (((dcS xp xs o xi (8 * go.toNat) (y - (o : Int)) (m1 + 1)).1.toNat : Nat) : Int)), .ref r, .int (iZ (bA xp xs o (dcS xp xs o xi (8 * go.toNat) (y - (o : Int)) m1).2))]) ⟨jx, jb, jml, jown, jts⟩ (c_M_bitsOf l D cI cB cZ r ri ro rc rp rs rd rk rh iL go oL o bP bR2 (nmb xp xs (dcS xp xs o xi (8 * go.toNat) (y - (o : Int)) m1).2) (ho.2) (by omega)) (zc_V 1 jts cd_Mod_bitsOf lk_Mod_112 im_Mod_bitsOf se_Mod_bitsOf in_Mod hd_Mod_bitsOf ⟨Nat.le_of_ble_eq_true rfl, Nat.le_of_ble_eq_true rfl⟩ rfl rfl) (z_preVR jK jP [0] rfl rfl rfl) rfl rfl jl.1 rfl (lv_room (Nat.le_of_ble_eq_true rfl)) d_Mod_follow_105 ⟨Nat.le_of_ble_eq_true rfl, Nat.le_of_ble_eq_true rfl⟩) ?_
                  refine z_top (bW xp xs o (dcS xp xs o xi (8 * go.toNat) (y - (o : Int)) m1).2 : Int) (bW_i hnk) ?_
                  refine z_backi (wr := [(rp, .inl (cI, 256, .inl (zA xp))), (rs, .inl (cI, 4096, .inl (zA xs)))]) jP jD jS jA [0, 1] [2, 3] rfl rfl (by decide) (by decide) (va_runV (As := [.int (iZ (((dcS xp xs o xi (8 * go.toNat) (y - (o : Int)) (m1 + 1)).1.toNat : Nat) : Int)), .int (iZ (bW xp xs o (dcS xp xs o xi (8 * go.toNat) (y - (o : Int)) m1).2 : Int))]) (rest := [.int (iZ (bA xp xs o (dcS xp xs o xi (8 * go.toNat) (y - (o : Int)) m1).2))]) ⟨jx, jb, jml, jown, jts⟩ (c_M_bitsAt l D cI cB cZ H.size r ri ro rc rp rs rd rk rh iL go oL o bP bR2 xi ((dcS xp xs o xi (8 * go.toNat) (y - (o : Int)) (m1 + 1)).1.toNat : Nat) (bW xp xs o (dcS xp xs o xi (8 * go.toNat) (y - (o : Int)) m1).2) (by first | assumption | omega) (by omega) (by first | assumption | omega) (by omega) (by omega) (by omega)) (zc_V 2 jts cd_Mod_bitsAt lk_Mod_135 im_Mod_bitsAt se_Mod_bitsAt in_Mod hd_Mod_bitsAt ⟨Nat.le_of_ble_eq_true rfl, Nat.le_of_ble_eq_true rfl⟩ rfl rfl) (z_preV jK jP jD [0, 1] (by decide) rfl rfl rfl rfl) rfl rfl jl.1 rfl (lv_room (Nat.le_of_ble_eq_true rfl)) d_Mod_follow_108 ⟨Nat.le_of_ble_eq_true rfl, Nat.le_of_ble_eq_true rfl⟩) (fun z108 u108 H locs hz108 jP jD jS => ?_)
                  obtain ⟨bR1_108, rfl⟩ : ∃ z, z = u108 := ⟨_, rfl⟩
                  have jP : va_P D classes [(r, .inr (4, [.ref ri, .int (iZ iL), .int (iZ go), .ref ro, .int (iZ oL), .ref rc, .int (iZ (o : Int)), .ref rp, .ref rs, .ref rd, .ref rk, .ref rh, .int (iZ bP), .int (iZ bR1_108)])), (ri, .inl (cI, 6000, .inl (zA xi))), (rp, .inl (cI, 256, .inl (zA xp))), (rs, .inl (cI, 4096, .inl (zA xs)))] H := jP.sub [2, 3, 0, 1] rfl
                  have jD : va_D A [(r, .inr (4, [.ref ri, .int (iZ iL), .int (iZ go), .ref ro, .int (iZ oL), .ref rc, .int (iZ (o : Int)), .ref rp, .ref rs, .ref rd, .ref rk, .ref rh, .int (iZ bP), .int (iZ bR1_108)])), (ri, .inl (cI, 6000, .inl (zA xi))), (rp, .inl (cI, 256, .inl (zA xp))), (rs, .inl (cI, 4096, .inl (zA xs)))] := jD.sub [2, 3, 0, 1] (by decide) rfl
                  obtain ⟨rfl, hb108⟩ := hz108
                  refine z_iadd jx jb d_Mod_follow_111 ?_
                  refine z_top ((dcS xp xs o xi (8 * go.toNat) (y - (o : Int)) (m1 + 1)).2 : Int) ((dc_s2 hnk hc90).symm) ?_
                  refine lv_istore (lv' := [(5, .int (iZ ((dcS xp xs o xi (8 * go.toNat) (y - (o : Int)) (m1 + 1)).2 : Int))), (4, .int (iZ ((dcS xp xs o xi (8 * go.toNat) (y - (o : Int)) (m1 + 1)).1))), (7, .int (iZ (nmb xp xs (dcS xp xs o xi (8 * go.toNat) (y - (o : Int)) m1).2))), (0, .ref r), (1, .int (iZ y)), (2, .int (iZ x)), (3, .int (iZ 0)), (6, .int (iZ (i : Int)))]) jx jb d_Mod_follow_112 jl (by decide) rfl (fun ls jl => ?_)
                  refine lv_iinc (v := iZ ((i + 1 : Nat) : Int)) (lv' := [(6, .int (iZ ((i + 1 : Nat) : Int))), (5, .int (iZ ((dcS xp xs o xi (8 * go.toNat) (y - (o : Int)) (m1 + 1)).2 : Int))), (4, .int (iZ ((dcS xp xs o xi (8 * go.toNat) (y - (o : Int)) (m1 + 1)).1))), (7, .int (iZ (nmb xp xs (dcS xp xs o xi (8 * go.toNat) (y - (o : Int)) m1).2))), (0, .ref r), (1, .int (iZ y)), (2, .int (iZ x)), (3, .int (iZ 0))]) jx jb d_Mod_follow_114 jl (k := 7) rfl (by rw [show ((i + 1 : Nat) : Int) = (i : Int) + 1 from by omega]; exact iZ_add _ _) (by decide) rfl (fun ls jl => ?_)
                  refine lv_goto (tgt := 32) jx jb d_Mod_follow_117 (by decide) ?_
                  exact ih32 (m1 + 1) (i + 1 : Nat) ((dcS xp xs o xi (8 * go.toNat) (y - (o : Int)) (m1 + 1)).2 : Int) bR1_108 (by omega) (by omega) (by first | assumption | omega) (fun _ => rfl) _ _ (jP.sub [0, 1, 2, 3] rfl) (jD.sub [0, 1, 2, 3] (by decide) rfl) jS _ (lv_sub jl [4, 5, 6, 7, 2, 1, 0] rfl)
            ·
              exact absurd hc44 (by decide)
    exact hloop32 ((x.toNat - 0) + 1) 0 0 v bR2 (Nat.lt_succ_self _) (by omega) (by first | assumption | omega) (hv0) _ _ (jP.sub [0, 1, 2, 3] rfl) (jD.sub [0, 1, 2, 3] (by decide) rfl) jS _ (lv_sub jl [2, 3, 4, 5, 6, 1, 0] rfl)
  refine z_if_ge (tgt := 17) jx jb d_Mod_follow_10 (by decide) ⟨by omega, by omega⟩ (fun hc10 => ?_) (fun hc10 => ?_)
  ·
    refine lv_aload_n jx jb d_Mod_follow_17 rfl (lv_at jl 1 rfl) ?_
    refine lv_iload jx jb d_Mod_follow_18 (lv_at jl 0 rfl) ?_
    refine z_top (((dcS xp xs o xi (8 * go.toNat) (y - (o : Int)) 0).1.toNat : Nat) : Int) (by omega) ?_
    refine lv_aload_n jx jb d_Mod_follow_20 rfl (lv_at jl 1 rfl) ?_
    refine va_get (D := D) (ci := 4) (v := .int (iZ (o : Int))) (C := R_Mod) (T := F_Mod) (N := 14) jx jb jts i_Mod jown jK.1 jP 0 rfl rfl 6 (by decide) (jts _ fl_Mod_50) (fun _ h9 => h9) rfl d_Mod_follow_21 ?_
    refine z_backi (wr := [(rp, .inl (cI, 256, .inl (zA xp))), (rs, .inl (cI, 4096, .inl (zA xs)))]) jP jD jS jA [0, 1] [2, 3] rfl rfl (by decide) (by decide) (va_runV (As := [.int (iZ (((dcS xp xs o xi (8 * go.toNat) (y - (o : Int)) 0).1.toNat : Nat) : Int)), .int (iZ (o : Int))]) (rest := []) ⟨jx, jb, jml, jown, jts⟩ (c_M_bitsAt l D cI cB cZ H.size r ri ro rc rp rs rd rk rh iL go oL o bP bR xi ((dcS xp xs o xi (8 * go.toNat) (y - (o : Int)) 0).1.toNat : Nat) o (by first | assumption | omega) (by omega) (by first | assumption | omega) (by omega) (by omega) (by omega)) (zc_V 2 jts cd_Mod_bitsAt lk_Mod_135 im_Mod_bitsAt se_Mod_bitsAt in_Mod hd_Mod_bitsAt ⟨Nat.le_of_ble_eq_true rfl, Nat.le_of_ble_eq_true rfl⟩ rfl rfl) (z_preV jK jP jD [0, 1] (by decide) rfl rfl rfl rfl) rfl rfl jl.1 rfl (lv_room (Nat.le_of_ble_eq_true rfl)) d_Mod_follow_24 ⟨Nat.le_of_ble_eq_true rfl, Nat.le_of_ble_eq_true rfl⟩) (fun z24 u24 H locs hz24 jP jD jS => ?_)
    obtain ⟨bR1_24, rfl⟩ : ∃ z, z = u24 := ⟨_, rfl⟩
    have jP : va_P D classes [(r, .inr (4, [.ref ri, .int (iZ iL), .int (iZ go), .ref ro, .int (iZ oL), .ref rc, .int (iZ (o : Int)), .ref rp, .ref rs, .ref rd, .ref rk, .ref rh, .int (iZ bP), .int (iZ bR1_24)])), (ri, .inl (cI, 6000, .inl (zA xi))), (rp, .inl (cI, 256, .inl (zA xp))), (rs, .inl (cI, 4096, .inl (zA xs)))] H := jP.sub [2, 3, 0, 1] rfl
    have jD : va_D A [(r, .inr (4, [.ref ri, .int (iZ iL), .int (iZ go), .ref ro, .int (iZ oL), .ref rc, .int (iZ (o : Int)), .ref rp, .ref rs, .ref rd, .ref rk, .ref rh, .int (iZ bP), .int (iZ bR1_24)])), (ri, .inl (cI, 6000, .inl (zA xi))), (rp, .inl (cI, 256, .inl (zA xp))), (rs, .inl (cI, 4096, .inl (zA xs)))] := jD.sub [2, 3, 0, 1] (by decide) rfl
    obtain ⟨rfl, hb24⟩ := hz24
    refine z_top ((dcS xp xs o xi (8 * go.toNat) (y - (o : Int)) 0).2 : Int) (dc_0 (by omega)) ?_
    exact hjoin27 ((dcS xp xs o xi (8 * go.toNat) (y - (o : Int)) 0).2 : Int) bR1_24 (by first | exact fun _ => rfl | exact fun q => absurd hc10 (by omega)) _ _ (jP.sub [0, 1, 2, 3] rfl) (jD.sub [0, 1, 2, 3] (by decide) rfl) jS _ (lv_sub jl [1, 2, 3, 4, 0] rfl)
  ·
    refine lv_iconst (v := iZ 0) jx jb d_Mod_follow_13 rfl ?_
    refine lv_goto (tgt := 27) jx jb d_Mod_follow_14 (by decide) ?_
    exact hjoin27 0 bR (by first | exact fun _ => rfl | exact fun q => absurd hc10 (by omega)) _ _ (jP.sub [0, 1, 2, 3] rfl) (jD.sub [0, 1, 2, 3] (by decide) rfl) jS _ (lv_sub jl [1, 2, 3, 4, 0] rfl)
abbrev rm_M_followT : Room := { frames := 2, cells := 0, slots := 0, locals := 46 }
set_option maxHeartbeats 4000000 in
set_option maxRecDepth 100000 in
theorem c_M_followT (l : Launch) (D : va_G) (cI cB cZ : ClassId) (sz : Nat) (r : Nat) (ri : Nat) (ro : Nat) (rc : Nat) (rp : Nat) (rs : Nat) (rd : Nat) (rk : Nat) (rh : Nat) (iL : Int) (go : Int) (oL : Int) (o : Nat) (bP : Int) (bR : Int) (xi : Nat → Int) (xp : Nat → Int) (xs : Nat → Int) (xo : Nat → Int) (y : Int) (x : Int) (hiL : 0 ≤ iL ∧ iL ≤ 6000) (hgo : 0 ≤ go ∧ go < iL) (hxi : ∀ k, k < 6000 → 0 ≤ xi k ∧ xi k < 256) (hpr : ∀ k, k < 256 → -1 ≤ xp k ∧ xp k ≤ 65536) (hxs : ∀ k, k < 4096 → 0 ≤ xs k ∧ xs k < 256) (ho : 5 ≤ o ∧ o ≤ 12) (hnum : ∀ k : Nat, (k : Int) < 2 ^ o → 1 ≤ nmb xp xs k ∧ nmb xp xs k < 2 ^ (o + 1)) (hy : 0 ≤ y ∧ y < 8 * (iL - go)) (hx1 : 1 ≤ x ∧ x ≤ 6000) (hend : 0 ≤ (dcS xp xs o xi (8 * go.toNat) (y - (o : Int)) (x.toNat - 1)).1) (hxo : ∀ k, k < 6000 → 0 ≤ xo k ∧ xo k < 256) : Met l y_Mod_follow (.code y_Mod_follow b_Mod_follow 8 (some .int) :: zT) rm_M_followT (zPc D classes (TY cI cB cZ) [(r, .inr (4, [.ref ri, .int (iZ iL), .int (iZ go), .ref ro, .int (iZ oL), .ref rc, .int (iZ (o : Int)), .ref rp, .ref rs, .ref rd, .ref rk, .ref rh, .int (iZ bP), .int (iZ bR)])), (ri, .inl (cI, 6000, .inl (zA xi))), (rp, .inl (cI, 256, .inl (zA xp))), (rs, .inl (cI, 4096, .inl (zA xs))), (ro, .inl (cI, 6000, .inl (zA xo)))] sz [.ref r, .int (iZ y), .int (iZ x), .int (iZ 1)]) (zFi (S := Int × (Nat → Int)) D classes (fun z u => (∀ k : Nat, k < x.toNat → u.2 k = xs (dcS xp xs o xi (8 * go.toNat) (y - (o : Int)) k).2) ∧ ∀ k, k < 6000 → 0 ≤ u.2 k ∧ u.2 k < 256) (fun u => [(r, .inr (4, [.ref ri, .int (iZ iL), .int (iZ go), .ref ro, .int (iZ oL), .ref rc, .int (iZ (o : Int)), .ref rp, .ref rs, .ref rd, .ref rk, .ref rh, .int (iZ bP), .int (iZ u.1)])), (ri, .inl (cI, 6000, .inl (zA xi))), (rp, .inl (cI, 256, .inl (zA xp))), (rs, .inl (cI, 4096, .inl (zA xs))), (ro, .inl (cI, 6000, .inl (zA u.2)))]) (va_A [(r, .inr (4, [.ref ri, .int (iZ iL), .int (iZ go), .ref ro, .int (iZ oL), .ref rc, .int (iZ (o : Int)), .ref rp, .ref rs, .ref rd, .ref rk, .ref rh, .int (iZ bP), .int (iZ bR)])), (ri, .inl (cI, 6000, .inl (zA xi))), (rp, .inl (cI, 256, .inl (zA xp))), (rs, .inl (cI, 4096, .inl (zA xs))), (ro, .inl (cI, 6000, .inl (zA xo)))] sz)) 0 0 (va_A [(r, .inr (4, [.ref ri, .int (iZ iL), .int (iZ go), .ref ro, .int (iZ oL), .ref rc, .int (iZ (o : Int)), .ref rp, .ref rs, .ref rd, .ref rk, .ref rh, .int (iZ bP), .int (iZ bR)])), (ri, .inl (cI, 6000, .inl (zA xi))), (rp, .inl (cI, 256, .inl (zA xp))), (rs, .inl (cI, 4096, .inl (zA xs))), (ro, .inl (cI, 6000, .inl (zA xo)))] sz) := by
  refine z_ofi (by decide) (Nat.le_of_ble_eq_true rfl) (Or.inl rfl) ?_
  intro p e s m args below meth c A Q E jA jK jret H locs jP jD jS ls jl
  obtain ⟨jx, jb, jrt, jml, jown, jts, jlk⟩ := E
  have jown : s.vm.findClass R_Mod = some m.cls := jown
  have hp12 := p2_le ho.2
  have hp13 := p2_le (show o + 1 ≤ 13 by omega)
  have hp0 := p2_pos o
  have h00 := dc_00 (gP := xp) (gS := xs) (o := o) (b := xi) (q0 := 8 * go.toNat) (u0 := (y - (o : Int)))
  have hst0 := dc_st (b := xi) (q0 := 8 * go.toNat) (u0 := (y - (o : Int))) (j := 0) hnum
  have jl : lv_has ls 8 [(0, .ref r), (1, .int (iZ y)), (2, .int (iZ x)), (3, .int (iZ 1))] := jl
  refine lv_iload_n jx jb d_Mod_follow_0 rfl (lv_at jl 1 rfl) ?_
  refine lv_aload_n jx jb d_Mod_follow_1 rfl (lv_at jl 0 rfl) ?_
  refine va_get (D := D) (ci := 4) (v := .int (iZ (o : Int))) (C := R_Mod) (T := F_Mod) (N := 14) jx jb jts i_Mod jown jK.1 jP 0 rfl rfl 6 (by decide) (jts _ fl_Mod_50) (fun _ h9 => h9) rfl d_Mod_follow_2 ?_
  refine z_isub jx jb d_Mod_follow_5 ?_
  refine z_top ((dcS xp xs o xi (8 * go.toNat) (y - (o : Int)) 0).1) (rfl) ?_
  refine lv_istore (lv' := [(4, .int (iZ ((dcS xp xs o xi (8 * go.toNat) (y - (o : Int)) 0).1))), (0, .ref r), (1, .int (iZ y)), (2, .int (iZ x)), (3, .int (iZ 1))]) jx jb d_Mod_follow_6 jl (by decide) rfl (fun ls jl => ?_)
  refine lv_iload jx jb d_Mod_follow_8 (lv_at jl 0 rfl) ?_
  have hjoin27 : ∀ (v : Int) (bR2 : Int), (0 ≤ (dcS xp xs o xi (8 * go.toNat) (y - (o : Int)) 0).1 → v = ((dcS xp xs o xi (8 * go.toNat) (y - (o : Int)) 0).2 : Int)) → ∀ (H : Heap) (locs : List Loc), va_P D classes [(r, .inr (4, [.ref ri, .int (iZ iL), .int (iZ go), .ref ro, .int (iZ oL), .ref rc, .int (iZ (o : Int)), .ref rp, .ref rs, .ref rd, .ref rk, .ref rh, .int (iZ bP), .int (iZ bR2)])), (ri, .inl (cI, 6000, .inl (zA xi))), (rp, .inl (cI, 256, .inl (zA xp))), (rs, .inl (cI, 4096, .inl (zA xs))), (ro, .inl (cI, 6000, .inl (zA xo)))] H → va_D A [(r, .inr (4, [.ref ri, .int (iZ iL), .int (iZ go), .ref ro, .int (iZ oL), .ref rc, .int (iZ (o : Int)), .ref rp, .ref rs, .ref rd, .ref rk, .ref rh, .int (iZ bP), .int (iZ bR2)])), (ri, .inl (cI, 6000, .inl (zA xi))), (rp, .inl (cI, 256, .inl (zA xp))), (rs, .inl (cI, 4096, .inl (zA xs))), (ro, .inl (cI, 6000, .inl (zA xo)))] → va_S A s.heap H locs → ∀ ls : Array Slot, lv_has ls 8 [(0, .ref r), (1, .int (iZ y)), (2, .int (iZ x)), (3, .int (iZ 1)), (4, .int (iZ ((dcS xp xs o xi (8 * go.toNat) (y - (o : Int)) 0).1)))] → W p l e rm_M_followT s m args below meth c H locs 0 0 Q (F0 m 27 ls [.int (iZ v)]) := by
    intro v bR2 hv0 H locs jP jD jS ls jl
    refine lv_istore (lv' := [(5, .int (iZ v)), (0, .ref r), (1, .int (iZ y)), (2, .int (iZ x)), (3, .int (iZ 1)), (4, .int (iZ ((dcS xp xs o xi (8 * go.toNat) (y - (o : Int)) 0).1)))]) jx jb d_Mod_follow_27 jl (by decide) rfl (fun ls jl => ?_)
    refine lv_iconst (v := iZ 0) jx jb d_Mod_follow_29 rfl ?_
    refine lv_istore (lv' := [(6, .int (iZ 0)), (5, .int (iZ v)), (0, .ref r), (1, .int (iZ y)), (2, .int (iZ x)), (3, .int (iZ 1)), (4, .int (iZ ((dcS xp xs o xi (8 * go.toNat) (y - (o : Int)) 0).1)))]) jx jb d_Mod_follow_30 jl (by decide) rfl (fun ls jl => ?_)
    have hloop32 : ∀ (nF : Nat) (m1 : Nat) (i : Nat) (v : Int) (bR2 : Int) (x2 : Nat → Int), x.toNat - i < nF → ((m1 = i ∧ (i : Int) < x) ∨ ((m1 : Int) + 1 = x ∧ (i : Int) = x)) → (-12 ≤ (dcS xp xs o xi (8 * go.toNat) (y - (o : Int)) m1).1) → (0 ≤ (dcS xp xs o xi (8 * go.toNat) (y - (o : Int)) m1).1 → v = ((dcS xp xs o xi (8 * go.toNat) (y - (o : Int)) m1).2 : Int)) → (∀ k : Nat, k < i → x2 k = xs (dcS xp xs o xi (8 * go.toNat) (y - (o : Int)) k).2) → (∀ k, k < 6000 → 0 ≤ x2 k ∧ x2 k < 256) → ∀ (H : Heap) (locs : List Loc), va_P D classes [(r, .inr (4, [.ref ri, .int (iZ iL), .int (iZ go), .ref ro, .int (iZ oL), .ref rc, .int (iZ (o : Int)), .ref rp, .ref rs, .ref rd, .ref rk, .ref rh, .int (iZ bP), .int (iZ bR2)])), (ri, .inl (cI, 6000, .inl (zA xi))), (rp, .inl (cI, 256, .inl (zA xp))), (rs, .inl (cI, 4096, .inl (zA xs))), (ro, .inl (cI, 6000, .inl (zA x2)))] H → va_D A [(r, .inr (4, [.ref ri, .int (iZ iL), .int (iZ go), .ref ro, .int (iZ oL), .ref rc, .int (iZ (o : Int)), .ref rp, .ref rs, .ref rd, .ref rk, .ref rh, .int (iZ bP), .int (iZ bR2)])), (ri, .inl (cI, 6000, .inl (zA xi))), (rp, .inl (cI, 256, .inl (zA xp))), (rs, .inl (cI, 4096, .inl (zA xs))), (ro, .inl (cI, 6000, .inl (zA x2)))] → va_S A s.heap H locs → ∀ ls : Array Slot, lv_has ls 8 [(0, .ref r), (1, .int (iZ y)), (2, .int (iZ x)), (3, .int (iZ 1)), (4, .int (iZ ((dcS xp xs o xi (8 * go.toNat) (y - (o : Int)) m1).1))), (5, .int (iZ v)), (6, .int (iZ (i : Int)))] → W p l e rm_M_followT s m args below meth c H locs 0 0 Q (F0 m 32 ls []) := by
      intro nF
      induction nF with
      | zero => intro m1 i v bR2 x2 hm; exact absurd hm (Nat.not_lt_zero _)
      | succ nF ih32 =>
        intro m1 i v bR2 x2 hm hm1 hlo hv hw hr H locs jP jD jS ls jl
        refine lv_iload jx jb d_Mod_follow_32 (lv_at jl 6 rfl) ?_
        refine lv_iload_n jx jb d_Mod_follow_34 rfl (lv_at jl 2 rfl) ?_
        refine z_icmp_ge (tgt := 120) jx jb d_Mod_follow_35 (by decide) ⟨⟨by omega, by omega⟩, ⟨by omega, by omega⟩⟩ (fun hc35 => ?_) (fun hc35 => ?_)
        ·
          have hm0 := dc_mono (gP := xp) (gS := xs) (o := o) (b := xi) (q0 := 8 * go.toNat) (u0 := (y - (o : Int))) (i := 0) (j := m1) (Nat.zero_le _)
          refine lv_iload jx jb d_Mod_follow_120 (lv_at jl 4 rfl) ?_
          exact jret _ _ _ (bR2, x2) _ _ (Or.inl rfl) (⟨fun k q => hw k (by omega), hr⟩) (jP.sub [0, 1, 2, 3, 4] rfl) (jD.sub [0, 1, 2, 3, 4] (by decide) rfl) jS d_Mod_follow_122
        ·
          have hm0 := dc_mono (gP := xp) (gS := xs) (o := o) (b := xi) (q0 := 8 * go.toNat) (u0 := (y - (o : Int))) (i := 0) (j := m1) (Nat.zero_le _)
          have hst := dc_st (b := xi) (q0 := 8 * go.toNat) (u0 := (y - (o : Int))) (j := m1) hnum
          have hnk := hnum _ hst
          have hba := bA_b hnk.1 hnk.2
          have hs1 := dc_s1 (gP := xp) (gS := xs) (o := o) (b := xi) (q0 := 8 * go.toNat) (u0 := (y - (o : Int))) (j := m1)
          have hst1 := dc_st (b := xi) (q0 := 8 * go.toNat) (u0 := (y - (o : Int))) (j := (m1 + 1)) hnum
          refine lv_iload jx jb d_Mod_follow_38 (lv_at jl 4 rfl) ?_
          refine z_if_lt (tgt := 120) jx jb d_Mod_follow_40 (by decide) ⟨by omega, by omega⟩ (fun hc40 => ?_) (fun hc40 => ?_)
          ·
            exfalso; have q := dc_mono (gP := xp) (gS := xs) (o := o) (b := xi) (q0 := 8 * go.toNat) (u0 := (y - (o : Int))) (i := m1) (j := (x.toNat - 1)) (by omega); omega
          ·
            refine lv_iload_n jx jb d_Mod_follow_43 rfl (lv_at jl 3 rfl) ?_
            refine z_if_eq (tgt := 61) jx jb d_Mod_follow_44 (by decide) ⟨by decide, by decide⟩ (fun hc44 => ?_) (fun hc44 => ?_)
            ·
              exact absurd hc44 (by decide)
            ·
              refine lv_aload_n jx jb d_Mod_follow_47 rfl (lv_at jl 0 rfl) ?_
              refine va_get (D := D) (ci := 4) (v := .ref ro) (C := R_Mod) (T := F_Mod) (N := 14) jx jb jts i_Mod jown jK.1 jP 0 rfl rfl 3 (by decide) (jts _ fl_Mod_13) (fun _ h9 => h9) rfl d_Mod_follow_48 ?_
              refine lv_iload jx jb d_Mod_follow_51 (lv_at jl 6 rfl) ?_
              refine lv_aload_n jx jb d_Mod_follow_53 rfl (lv_at jl 0 rfl) ?_
              refine va_get (D := D) (ci := 4) (v := .ref rs) (C := R_Mod) (T := F_Mod) (N := 14) jx jb jts i_Mod jown jK.1 jP 0 rfl rfl 8 (by decide) (jts _ fl_Mod_22) (fun _ h9 => h9) rfl d_Mod_follow_54 ?_
              refine lv_iload jx jb d_Mod_follow_57 (lv_at jl 5 rfl) ?_
              refine z_top ((dcS xp xs o xi (8 * go.toNat) (y - (o : Int)) m1).2 : Int) (hv (by omega)) ?_
              refine z_iald jx jb jK.1 jP 3 0 rfl rfl ((dcS xp xs o xi (8 * go.toNat) (y - (o : Int)) m1).2) (by omega) d_Mod_follow_59 ?_
              refine z_iast jx jb jK.1 jP jD jS 4 0 rfl rfl i (by omega) d_Mod_follow_60 (fun H locs jP jD jS => ?_)
              have jP : va_P D classes [(r, .inr (4, [.ref ri, .int (iZ iL), .int (iZ go), .ref ro, .int (iZ oL), .ref rc, .int (iZ (o : Int)), .ref rp, .ref rs, .ref rd, .ref rk, .ref rh, .int (iZ bP), .int (iZ bR2)])), (ri, .inl (cI, 6000, .inl (zA xi))), (rp, .inl (cI, 256, .inl (zA xp))), (rs, .inl (cI, 4096, .inl (zA xs))), (ro, .inl (cI, 6000, .inl (zA (zu x2 i (xs ((dcS xp xs o xi (8 * go.toNat) (y - (o : Int)) m1).2))))))] H := jP
              have jD : va_D A [(r, .inr (4, [.ref ri, .int (iZ iL), .int (iZ go), .ref ro, .int (iZ oL), .ref rc, .int (iZ (o : Int)), .ref rp, .ref rs, .ref rd, .ref rk, .ref rh, .int (iZ bP), .int (iZ bR2)])), (ri, .inl (cI, 6000, .inl (zA xi))), (rp, .inl (cI, 256, .inl (zA xp))), (rs, .inl (cI, 4096, .inl (zA xs))), (ro, .inl (cI, 6000, .inl (zA (zu x2 i (xs ((dcS xp xs o xi (8 * go.toNat) (y - (o : Int)) m1).2))))))] := jD
              refine lv_iload jx jb d_Mod_follow_61 (lv_at jl 6 rfl) ?_
              refine lv_iload_n jx jb d_Mod_follow_63 rfl (lv_at jl 2 rfl) ?_
              refine lv_iconst (v := iZ 1) jx jb d_Mod_follow_64 rfl ?_
              refine z_isub jx jb d_Mod_follow_65 ?_
              refine z_icmp_ge (tgt := 114) jx jb d_Mod_follow_66 (by decide) ⟨⟨by omega, by omega⟩, ⟨by omega, by omega⟩⟩ (fun hc66 => ?_) (fun hc66 => ?_)
              ·
                refine lv_iinc (v := iZ ((i + 1 : Nat) : Int)) (lv' := [(6, .int (iZ ((i + 1 : Nat) : Int))), (0, .ref r), (1, .int (iZ y)), (2, .int (iZ x)), (3, .int (iZ 1)), (4, .int (iZ ((dcS xp xs o xi (8 * go.toNat) (y - (o : Int)) m1).1))), (5, .int (iZ v))]) jx jb d_Mod_follow_114 jl (k := 6) rfl (by rw [show ((i + 1 : Nat) : Int) = (i : Int) + 1 from by omega]; exact iZ_add _ _) (by decide) rfl (fun ls jl => ?_)
                refine lv_goto (tgt := 32) jx jb d_Mod_follow_117 (by decide) ?_
                exact ih32 m1 (i + 1 : Nat) v bR2 (zu x2 i (xs ((dcS xp xs o xi (8 * go.toNat) (y - (o : Int)) m1).2))) (by omega) (by omega) (by first | assumption | omega) (hv) (zu_all (v := fun k => xs (dcS xp xs o xi (8 * go.toNat) (y - (o : Int)) k).2) hw (by rw [show m1 = i by omega])) (zu_rg hr (hxs _ (by omega))) _ _ (jP.sub [0, 1, 2, 3, 4] rfl) (jD.sub [0, 1, 2, 3, 4] (by decide) rfl) jS _ (lv_sub jl [1, 2, 3, 4, 5, 6, 0] rfl)
              ·
                refine lv_aload_n jx jb d_Mod_follow_69 rfl (lv_at jl 0 rfl) ?_
                refine lv_iload jx jb d_Mod_follow_70 (lv_at jl 5 rfl) ?_
                refine z_top ((dcS xp xs o xi (8 * go.toNat) (y - (o : Int)) m1).2 : Int) (hv (by omega)) ?_
                refine z_backe (va_runV (As := [.int (iZ ((dcS xp xs o xi (8 * go.toNat) (y - (o : Int)) m1).2 : Int))]) (rest := []) ⟨jx, jb, jml, jown, jts⟩ (c_M_numberOf l D cI cB cZ r ri ro rc rp rs rd rk rh iL go oL o bP bR2 xp xs ((dcS xp xs o xi (8 * go.toNat) (y - (o : Int)) m1).2) (by first | assumption | omega) (by first | assumption | omega) (by omega)) (zc_V 1 jts cd_Mod_numberOf lk_Mod_115 im_Mod_numberOf se_Mod_numberOf in_Mod hd_Mod_numberOf ⟨Nat.le_of_ble_eq_true rfl, Nat.le_of_ble_eq_true rfl⟩ rfl rfl) (z_preVR jK jP [0, 2, 3] rfl rfl rfl) rfl rfl jl.1 rfl (lv_room (Nat.le_of_ble_eq_true rfl)) d_Mod_follow_72 ⟨Nat.le_of_ble_eq_true rfl, Nat.le_of_ble_eq_true rfl⟩) ?_
                refine z_top (nmb xp xs (dcS xp xs o xi (8 * go.toNat) (y - (o : Int)) m1).2) (rfl) ?_
                refine lv_istore (lv' := [(7, .int (iZ (nmb xp xs (dcS xp xs o xi (8 * go.toNat) (y - (o : Int)) m1).2))), (0, .ref r), (1, .int (iZ y)), (2, .int (iZ x)), (3, .int (iZ 1)), (4, .int (iZ ((dcS xp xs o xi (8 * go.toNat) (y - (o : Int)) m1).1))), (5, .int (iZ v)), (6, .int (iZ (i : Int)))]) jx jb d_Mod_follow_75 jl (by decide) rfl (fun ls jl => ?_)
                refine lv_iload jx jb d_Mod_follow_77 (lv_at jl 5 rfl) ?_
                refine lv_aload_n jx jb d_Mod_follow_79 rfl (lv_at jl 1 rfl) ?_
                refine lv_iload jx jb d_Mod_follow_80 (lv_at jl 0 rfl) ?_
                refine z_backe (va_runV (As := [.int (iZ (nmb xp xs (dcS xp xs o xi (8 * go.toNat) (y - (o : Int)) m1).2))]) (rest := [.int (iZ ((dcS xp xs o xi (8 * go.toNat) (y - (o : Int)) m1).1))]) ⟨jx, jb, jml, jown, jts⟩ (c_M_bitsOf l D cI cB cZ r ri ro rc rp rs rd rk rh iL go oL o bP bR2 (nmb xp xs (dcS xp xs o xi (8 * go.toNat) (y - (o : Int)) m1).2) (ho.2) (by omega)) (zc_V 1 jts cd_Mod_bitsOf lk_Mod_112 im_Mod_bitsOf se_Mod_bitsOf in_Mod hd_Mod_bitsOf ⟨Nat.le_of_ble_eq_true rfl, Nat.le_of_ble_eq_true rfl⟩ rfl rfl) (z_preVR jK jP [0] rfl rfl rfl) rfl rfl jl.1 rfl (lv_room (Nat.le_of_ble_eq_true rfl)) d_Mod_follow_82 ⟨Nat.le_of_ble_eq_true rfl, Nat.le_of_ble_eq_true rfl⟩) ?_
                refine z_top (bW xp xs o (dcS xp xs o xi (8 * go.toNat) (y - (o : Int)) m1).2 : Int) (bW_i hnk) ?_
                refine z_isub jx jb d_Mod_follow_85 ?_
                refine z_top ((dcS xp xs o xi (8 * go.toNat) (y - (o : Int)) (m1 + 1)).1) (rfl) ?_
                refine lv_istore (lv' := [(4, .int (iZ ((dcS xp xs o xi (8 * go.toNat) (y - (o : Int)) (m1 + 1)).1))), (7, .int (iZ (nmb xp xs (dcS xp xs o xi (8 * go.toNat) (y - (o : Int)) m1).2))), (0, .ref r), (1, .int (iZ y)), (2, .int (iZ x)), (3, .int (iZ 1)), (5, .int (iZ v)), (6, .int (iZ (i : Int)))]) jx jb d_Mod_follow_86 jl (by decide) rfl (fun ls jl => ?_)
                refine lv_iload jx jb d_Mod_follow_88 (lv_at jl 0 rfl) ?_
                refine z_if_lt (tgt := 114) jx jb d_Mod_follow_90 (by decide) ⟨by omega, by omega⟩ (fun hc90 => ?_) (fun hc90 => ?_)
                ·
                  exfalso; have q := dc_mono (gP := xp) (gS := xs) (o := o) (b := xi) (q0 := 8 * go.toNat) (u0 := (y - (o : Int))) (i := (m1 + 1)) (j := (x.toNat - 1)) (by omega); omega
                ·
                  refine lv_aload_n jx jb d_Mod_follow_93 rfl (lv_at jl 2 rfl) ?_
                  refine lv_iload jx jb d_Mod_follow_94 (lv_at jl 1 rfl) ?_
                  refine z_backe (va_runV (As := [.int (iZ (nmb xp xs (dcS xp xs o xi (8 * go.toNat) (y - (o : Int)) m1).2))]) (rest := []) ⟨jx, jb, jml, jown, jts⟩ (c_M_baseOf l D cI cB cZ r ri ro rc rp rs rd rk rh iL go oL o bP bR2 (nmb xp xs (dcS xp xs o xi (8 * go.toNat) (y - (o : Int)) m1).2) (ho.2) (hnk)) (zc_V 1 jts cd_Mod_baseOf lk_Mod_118 im_Mod_baseOf se_Mod_baseOf in_Mod hd_Mod_baseOf ⟨Nat.le_of_ble_eq_true rfl, Nat.le_of_ble_eq_true rfl⟩ rfl rfl) (z_preVR jK jP [0] rfl rfl rfl) rfl rfl jl.1 rfl (lv_room (Nat.le_of_ble_eq_true rfl)) d_Mod_follow_96 ⟨Nat.le_of_ble_eq_true rfl, Nat.le_of_ble_eq_true rfl⟩) ?_
                  refine z_top (bA xp xs o (dcS xp xs o xi (8 * go.toNat) (y - (o : Int)) m1).2) (rfl) ?_
                  refine lv_aload_n jx jb d_Mod_follow_99 rfl (lv_at jl 2 rfl) ?_
                  refine lv_iload jx jb d_Mod_follow_100 (lv_at jl 0 rfl) ?_
                  refine z_top (((dcS xp xs o xi (8 * go.toNat) (y - (o : Int)) (m1 + 1)).1.toNat : Nat) : Int) (by omega) ?_
                  refine lv_aload_n jx jb d_Mod_follow_102 rfl (lv_at jl 2 rfl) ?_
                  refine lv_iload jx jb d_Mod_follow_103 (lv_at jl 1 rfl) ?_
                  refine z_backe (va_runV (As := [.int (iZ (nmb xp xs (dcS xp xs o xi (8 * go.toNat) (y - (o : Int)) m1).2))]) (rest := [.int (iZ (((dcS xp xs o xi (8 * go.toNat) (y - (o : Int)) (m1 + 1)).1.toNat : Nat) : Int)), .ref r, .int (iZ (bA xp xs o (dcS xp xs o xi (8 * go.toNat) (y - (o : Int)) m1).2))]) ⟨jx, jb, jml, jown, jts⟩ (c_M_bitsOf l D cI cB cZ r ri ro rc rp rs rd rk rh iL go oL o bP bR2 (nmb xp xs (dcS xp xs o xi (8 * go.toNat) (y - (o : Int)) m1).2) (ho.2) (by omega)) (zc_V 1 jts cd_Mod_bitsOf lk_Mod_112 im_Mod_bitsOf se_Mod_bitsOf in_Mod hd_Mod_bitsOf ⟨Nat.le_of_ble_eq_true rfl, Nat.le_of_ble_eq_true rfl⟩ rfl rfl) (z_preVR jK jP [0] rfl rfl rfl) rfl rfl jl.1 rfl (lv_room (Nat.le_of_ble_eq_true rfl)) d_Mod_follow_105 ⟨Nat.le_of_ble_eq_true rfl, Nat.le_of_ble_eq_true rfl⟩) ?_
                  refine z_top (bW xp xs o (dcS xp xs o xi (8 * go.toNat) (y - (o : Int)) m1).2 : Int) (bW_i hnk) ?_
                  refine z_backi (wr := [(rp, .inl (cI, 256, .inl (zA xp))), (rs, .inl (cI, 4096, .inl (zA xs))), (ro, .inl (cI, 6000, .inl (zA (zu x2 i (xs ((dcS xp xs o xi (8 * go.toNat) (y - (o : Int)) m1).2))))))]) jP jD jS jA [0, 1] [2, 3, 4] rfl rfl (by decide) (by decide) (va_runV (As := [.int (iZ (((dcS xp xs o xi (8 * go.toNat) (y - (o : Int)) (m1 + 1)).1.toNat : Nat) : Int)), .int (iZ (bW xp xs o (dcS xp xs o xi (8 * go.toNat) (y - (o : Int)) m1).2 : Int))]) (rest := [.int (iZ (bA xp xs o (dcS xp xs o xi (8 * go.toNat) (y - (o : Int)) m1).2))]) ⟨jx, jb, jml, jown, jts⟩ (c_M_bitsAt l D cI cB cZ H.size r ri ro rc rp rs rd rk rh iL go oL o bP bR2 xi ((dcS xp xs o xi (8 * go.toNat) (y - (o : Int)) (m1 + 1)).1.toNat : Nat) (bW xp xs o (dcS xp xs o xi (8 * go.toNat) (y - (o : Int)) m1).2) (by first | assumption | omega) (by omega) (by first | assumption | omega) (by omega) (by omega) (by omega)) (zc_V 2 jts cd_Mod_bitsAt lk_Mod_135 im_Mod_bitsAt se_Mod_bitsAt in_Mod hd_Mod_bitsAt ⟨Nat.le_of_ble_eq_true rfl, Nat.le_of_ble_eq_true rfl⟩ rfl rfl) (z_preV jK jP jD [0, 1] (by decide) rfl rfl rfl rfl) rfl rfl jl.1 rfl (lv_room (Nat.le_of_ble_eq_true rfl)) d_Mod_follow_108 ⟨Nat.le_of_ble_eq_true rfl, Nat.le_of_ble_eq_true rfl⟩) (fun z108 u108 H locs hz108 jP jD jS => ?_)
                  obtain ⟨bR1_108, rfl⟩ : ∃ z, z = u108 := ⟨_, rfl⟩
                  have jP : va_P D classes [(r, .inr (4, [.ref ri, .int (iZ iL), .int (iZ go), .ref ro, .int (iZ oL), .ref rc, .int (iZ (o : Int)), .ref rp, .ref rs, .ref rd, .ref rk, .ref rh, .int (iZ bP), .int (iZ bR1_108)])), (ri, .inl (cI, 6000, .inl (zA xi))), (rp, .inl (cI, 256, .inl (zA xp))), (rs, .inl (cI, 4096, .inl (zA xs))), (ro, .inl (cI, 6000, .inl (zA (zu x2 i (xs ((dcS xp xs o xi (8 * go.toNat) (y - (o : Int)) m1).2))))))] H := jP.sub [3, 4, 0, 1, 2] rfl
                  have jD : va_D A [(r, .inr (4, [.ref ri, .int (iZ iL), .int (iZ go), .ref ro, .int (iZ oL), .ref rc, .int (iZ (o : Int)), .ref rp, .ref rs, .ref rd, .ref rk, .ref rh, .int (iZ bP), .int (iZ bR1_108)])), (ri, .inl (cI, 6000, .inl (zA xi))), (rp, .inl (cI, 256, .inl (zA xp))), (rs, .inl (cI, 4096, .inl (zA xs))), (ro, .inl (cI, 6000, .inl (zA (zu x2 i (xs ((dcS xp xs o xi (8 * go.toNat) (y - (o : Int)) m1).2))))))] := jD.sub [3, 4, 0, 1, 2] (by decide) rfl
                  obtain ⟨rfl, hb108⟩ := hz108
                  refine z_iadd jx jb d_Mod_follow_111 ?_
                  refine z_top ((dcS xp xs o xi (8 * go.toNat) (y - (o : Int)) (m1 + 1)).2 : Int) ((dc_s2 hnk hc90).symm) ?_
                  refine lv_istore (lv' := [(5, .int (iZ ((dcS xp xs o xi (8 * go.toNat) (y - (o : Int)) (m1 + 1)).2 : Int))), (4, .int (iZ ((dcS xp xs o xi (8 * go.toNat) (y - (o : Int)) (m1 + 1)).1))), (7, .int (iZ (nmb xp xs (dcS xp xs o xi (8 * go.toNat) (y - (o : Int)) m1).2))), (0, .ref r), (1, .int (iZ y)), (2, .int (iZ x)), (3, .int (iZ 1)), (6, .int (iZ (i : Int)))]) jx jb d_Mod_follow_112 jl (by decide) rfl (fun ls jl => ?_)
                  refine lv_iinc (v := iZ ((i + 1 : Nat) : Int)) (lv' := [(6, .int (iZ ((i + 1 : Nat) : Int))), (5, .int (iZ ((dcS xp xs o xi (8 * go.toNat) (y - (o : Int)) (m1 + 1)).2 : Int))), (4, .int (iZ ((dcS xp xs o xi (8 * go.toNat) (y - (o : Int)) (m1 + 1)).1))), (7, .int (iZ (nmb xp xs (dcS xp xs o xi (8 * go.toNat) (y - (o : Int)) m1).2))), (0, .ref r), (1, .int (iZ y)), (2, .int (iZ x)), (3, .int (iZ 1))]) jx jb d_Mod_follow_114 jl (k := 7) rfl (by rw [show ((i + 1 : Nat) : Int) = (i : Int) + 1 from by omega]; exact iZ_add _ _) (by decide) rfl (fun ls jl => ?_)
                  refine lv_goto (tgt := 32) jx jb d_Mod_follow_117 (by decide) ?_
                  exact ih32 (m1 + 1) (i + 1 : Nat) ((dcS xp xs o xi (8 * go.toNat) (y - (o : Int)) (m1 + 1)).2 : Int) bR1_108 (zu x2 i (xs ((dcS xp xs o xi (8 * go.toNat) (y - (o : Int)) m1).2))) (by omega) (by omega) (by first | assumption | omega) (fun _ => rfl) (zu_all (v := fun k => xs (dcS xp xs o xi (8 * go.toNat) (y - (o : Int)) k).2) hw (by rw [show m1 = i by omega])) (zu_rg hr (hxs _ (by omega))) _ _ (jP.sub [0, 1, 2, 3, 4] rfl) (jD.sub [0, 1, 2, 3, 4] (by decide) rfl) jS _ (lv_sub jl [4, 5, 6, 7, 2, 1, 0] rfl)
    exact hloop32 ((x.toNat - 0) + 1) 0 0 v bR2 xo (Nat.lt_succ_self _) (by omega) (by first | assumption | omega) (hv0) (fun k q => absurd q (by omega)) (hxo) _ _ (jP.sub [0, 1, 2, 3, 4] rfl) (jD.sub [0, 1, 2, 3, 4] (by decide) rfl) jS _ (lv_sub jl [2, 3, 4, 5, 6, 1, 0] rfl)
  refine z_if_ge (tgt := 17) jx jb d_Mod_follow_10 (by decide) ⟨by omega, by omega⟩ (fun hc10 => ?_) (fun hc10 => ?_)
  ·
    refine lv_aload_n jx jb d_Mod_follow_17 rfl (lv_at jl 1 rfl) ?_
    refine lv_iload jx jb d_Mod_follow_18 (lv_at jl 0 rfl) ?_
    refine z_top (((dcS xp xs o xi (8 * go.toNat) (y - (o : Int)) 0).1.toNat : Nat) : Int) (by omega) ?_
    refine lv_aload_n jx jb d_Mod_follow_20 rfl (lv_at jl 1 rfl) ?_
    refine va_get (D := D) (ci := 4) (v := .int (iZ (o : Int))) (C := R_Mod) (T := F_Mod) (N := 14) jx jb jts i_Mod jown jK.1 jP 0 rfl rfl 6 (by decide) (jts _ fl_Mod_50) (fun _ h9 => h9) rfl d_Mod_follow_21 ?_
    refine z_backi (wr := [(rp, .inl (cI, 256, .inl (zA xp))), (rs, .inl (cI, 4096, .inl (zA xs))), (ro, .inl (cI, 6000, .inl (zA xo)))]) jP jD jS jA [0, 1] [2, 3, 4] rfl rfl (by decide) (by decide) (va_runV (As := [.int (iZ (((dcS xp xs o xi (8 * go.toNat) (y - (o : Int)) 0).1.toNat : Nat) : Int)), .int (iZ (o : Int))]) (rest := []) ⟨jx, jb, jml, jown, jts⟩ (c_M_bitsAt l D cI cB cZ H.size r ri ro rc rp rs rd rk rh iL go oL o bP bR xi ((dcS xp xs o xi (8 * go.toNat) (y - (o : Int)) 0).1.toNat : Nat) o (by first | assumption | omega) (by omega) (by first | assumption | omega) (by omega) (by omega) (by omega)) (zc_V 2 jts cd_Mod_bitsAt lk_Mod_135 im_Mod_bitsAt se_Mod_bitsAt in_Mod hd_Mod_bitsAt ⟨Nat.le_of_ble_eq_true rfl, Nat.le_of_ble_eq_true rfl⟩ rfl rfl) (z_preV jK jP jD [0, 1] (by decide) rfl rfl rfl rfl) rfl rfl jl.1 rfl (lv_room (Nat.le_of_ble_eq_true rfl)) d_Mod_follow_24 ⟨Nat.le_of_ble_eq_true rfl, Nat.le_of_ble_eq_true rfl⟩) (fun z24 u24 H locs hz24 jP jD jS => ?_)
    obtain ⟨bR1_24, rfl⟩ : ∃ z, z = u24 := ⟨_, rfl⟩
    have jP : va_P D classes [(r, .inr (4, [.ref ri, .int (iZ iL), .int (iZ go), .ref ro, .int (iZ oL), .ref rc, .int (iZ (o : Int)), .ref rp, .ref rs, .ref rd, .ref rk, .ref rh, .int (iZ bP), .int (iZ bR1_24)])), (ri, .inl (cI, 6000, .inl (zA xi))), (rp, .inl (cI, 256, .inl (zA xp))), (rs, .inl (cI, 4096, .inl (zA xs))), (ro, .inl (cI, 6000, .inl (zA xo)))] H := jP.sub [3, 4, 0, 1, 2] rfl
    have jD : va_D A [(r, .inr (4, [.ref ri, .int (iZ iL), .int (iZ go), .ref ro, .int (iZ oL), .ref rc, .int (iZ (o : Int)), .ref rp, .ref rs, .ref rd, .ref rk, .ref rh, .int (iZ bP), .int (iZ bR1_24)])), (ri, .inl (cI, 6000, .inl (zA xi))), (rp, .inl (cI, 256, .inl (zA xp))), (rs, .inl (cI, 4096, .inl (zA xs))), (ro, .inl (cI, 6000, .inl (zA xo)))] := jD.sub [3, 4, 0, 1, 2] (by decide) rfl
    obtain ⟨rfl, hb24⟩ := hz24
    refine z_top ((dcS xp xs o xi (8 * go.toNat) (y - (o : Int)) 0).2 : Int) (dc_0 (by omega)) ?_
    exact hjoin27 ((dcS xp xs o xi (8 * go.toNat) (y - (o : Int)) 0).2 : Int) bR1_24 (by first | exact fun _ => rfl | exact fun q => absurd hc10 (by omega)) _ _ (jP.sub [0, 1, 2, 3, 4] rfl) (jD.sub [0, 1, 2, 3, 4] (by decide) rfl) jS _ (lv_sub jl [1, 2, 3, 4, 0] rfl)
  ·
    refine lv_iconst (v := iZ 0) jx jb d_Mod_follow_13 rfl ?_
    refine lv_goto (tgt := 27) jx jb d_Mod_follow_14 (by decide) ?_
    exact hjoin27 0 bR (by first | exact fun _ => rfl | exact fun q => absurd hc10 (by omega)) _ _ (jP.sub [0, 1, 2, 3, 4] rfl) (jD.sub [0, 1, 2, 3, 4] (by decide) rfl) jS _ (lv_sub jl [1, 2, 3, 4, 0] rfl)
abbrev rm_M_decode : Room := { frames := 3, cells := 0, slots := 0, locals := 73 }
set_option maxHeartbeats 4000000 in
set_option maxRecDepth 100000 in
theorem c_M_decode (l : Launch) (D : va_G) (cI cB cZ : ClassId) (sz : Nat) (r : Nat) (ri : Nat) (ro : Nat) (rc : Nat) (rp : Nat) (rs : Nat) (rd : Nat) (rk : Nat) (rh : Nat) (iL : Int) (go : Int) (oL : Int) (o : Nat) (bP : Int) (bR : Int) (xi : Nat → Int) (xp : Nat → Int) (xs : Nat → Int) (xo : Nat → Int) (x : Int) (hiL : 0 ≤ iL ∧ iL ≤ 6000) (hgo : 0 ≤ go ∧ go ≤ iL) (hxi : ∀ k, k < 6000 → 0 ≤ xi k ∧ xi k < 256) (hpr : ∀ k, k < 256 → -1 ≤ xp k ∧ xp k ≤ 65536) (hxs : ∀ k, k < 4096 → 0 ≤ xs k ∧ xs k < 256) (ho : o = 0 ∨ (5 ≤ o ∧ o ≤ 12)) (hnum : 0 < o → ∀ k : Nat, (k : Int) < 2 ^ o → 1 ≤ nmb xp xs k ∧ nmb xp xs k < 2 ^ (o + 1)) (hx1 : -2147483648 ≤ x ∧ x < 2147483648) (hxo : ∀ k, k < 6000 → 0 ≤ xo k ∧ xo k < 256) : Met l y_Mod_decode (.code y_Mod_decode b_Mod_decode 4 (some .int) :: zT) rm_M_decode (zPc D classes (TY cI cB cZ) [(r, .inr (4, [.ref ri, .int (iZ iL), .int (iZ go), .ref ro, .int (iZ oL), .ref rc, .int (iZ (o : Int)), .ref rp, .ref rs, .ref rd, .ref rk, .ref rh, .int (iZ bP), .int (iZ bR)])), (ri, .inl (cI, 6000, .inl (zA xi))), (rp, .inl (cI, 256, .inl (zA xp))), (rs, .inl (cI, 4096, .inl (zA xs))), (ro, .inl (cI, 6000, .inl (zA xo)))] sz [.ref r, .int (iZ x)]) (zFi (S := Int × Int × (Nat → Int)) D classes (fun z u => (z = -1 ∧ (o = 0 ∨ x < 1 ∨ 6000 < x) ∧ (u.1 = oL ∧ u.2.2 = xo)) ∨ (z = -2 ∧ (0 < o ∧ 1 ≤ x ∧ x ≤ 6000) ∧ (go = iL ∨ (go < iL ∧ (xi (iL - 1).toNat) = 0)) ∧ (u.1 = oL ∧ u.2.2 = xo)) ∨ (z = -3 ∧ (0 < o ∧ 1 ≤ x ∧ x ≤ 6000 ∧ go < iL ∧ (xi (iL - 1).toNat) ≠ 0) ∧ (dcS xp xs o xi (8 * go.toNat) (8 * (iL - 1 - go) + (zlog (xi (iL - 1).toNat) : Int) - (o : Int)) (x.toNat - 1)).1 < 0 ∧ (u.1 = oL ∧ u.2.2 = xo)) ∨ (z = -4 ∧ (0 < o ∧ 1 ≤ x ∧ x ≤ 6000 ∧ go < iL ∧ (xi (iL - 1).toNat) ≠ 0) ∧ 0 < (dcS xp xs o xi (8 * go.toNat) (8 * (iL - 1 - go) + (zlog (xi (iL - 1).toNat) : Int) - (o : Int)) (x.toNat - 1)).1 ∧ (u.1 = oL ∧ u.2.2 = xo)) ∨ (z = x ∧ (0 < o ∧ 1 ≤ x ∧ x ≤ 6000 ∧ go < iL ∧ (xi (iL - 1).toNat) ≠ 0) ∧ (dcS xp xs o xi (8 * go.toNat) (8 * (iL - 1 - go) + (zlog (xi (iL - 1).toNat) : Int) - (o : Int)) (x.toNat - 1)).1 = 0 ∧ u.1 = x ∧ (∀ i : Nat, i < x.toNat → u.2.2 i = xs (dcS xp xs o xi (8 * go.toNat) (8 * (iL - 1 - go) + (zlog (xi (iL - 1).toNat) : Int) - (o : Int)) i).2) ∧ ∀ k, k < 6000 → 0 ≤ u.2.2 k ∧ u.2.2 k < 256)) (fun u => [(r, .inr (4, [.ref ri, .int (iZ iL), .int (iZ go), .ref ro, .int (iZ u.1), .ref rc, .int (iZ (o : Int)), .ref rp, .ref rs, .ref rd, .ref rk, .ref rh, .int (iZ bP), .int (iZ u.2.1)])), (ri, .inl (cI, 6000, .inl (zA xi))), (rp, .inl (cI, 256, .inl (zA xp))), (rs, .inl (cI, 4096, .inl (zA xs))), (ro, .inl (cI, 6000, .inl (zA u.2.2)))]) (va_A [(r, .inr (4, [.ref ri, .int (iZ iL), .int (iZ go), .ref ro, .int (iZ oL), .ref rc, .int (iZ (o : Int)), .ref rp, .ref rs, .ref rd, .ref rk, .ref rh, .int (iZ bP), .int (iZ bR)])), (ri, .inl (cI, 6000, .inl (zA xi))), (rp, .inl (cI, 256, .inl (zA xp))), (rs, .inl (cI, 4096, .inl (zA xs))), (ro, .inl (cI, 6000, .inl (zA xo)))] sz)) 0 0 (va_A [(r, .inr (4, [.ref ri, .int (iZ iL), .int (iZ go), .ref ro, .int (iZ oL), .ref rc, .int (iZ (o : Int)), .ref rp, .ref rs, .ref rd, .ref rk, .ref rh, .int (iZ bP), .int (iZ bR)])), (ri, .inl (cI, 6000, .inl (zA xi))), (rp, .inl (cI, 256, .inl (zA xp))), (rs, .inl (cI, 4096, .inl (zA xs))), (ro, .inl (cI, 6000, .inl (zA xo)))] sz) := by
  refine z_ofi (by decide) (Nat.le_of_ble_eq_true rfl) (Or.inl rfl) ?_
  intro p e s m args below meth c A Q E jA jK jret H locs jP jD jS ls jl
  obtain ⟨jx, jb, jrt, jml, jown, jts, jlk⟩ := E
  have jown : s.vm.findClass R_Mod = some m.cls := jown
  have jl : lv_has ls 4 [(0, .ref r), (1, .int (iZ x))] := jl
  refine lv_aload_n jx jb d_Mod_decode_0 rfl (lv_at jl 0 rfl) ?_
  refine va_get (D := D) (ci := 4) (v := .int (iZ (o : Int))) (C := R_Mod) (T := F_Mod) (N := 14) jx jb jts i_Mod jown jK.1 jP 0 rfl rfl 6 (by decide) (jts _ fl_Mod_50) (fun _ h9 => h9) rfl d_Mod_decode_1 ?_
  refine z_if_eq (tgt := 19) jx jb d_Mod_decode_4 (by decide) ⟨by omega, by omega⟩ (fun hc4 => ?_) (fun hc4 => ?_)
  ·
    refine lv_iconst (v := iZ (-1)) jx jb d_Mod_decode_19 rfl ?_
    exact jret _ _ _ (oL, bR, xo) _ _ (Or.inl rfl) (Or.inl ⟨rfl, by omega, rfl, rfl⟩) (jP.sub [0, 1, 2, 3, 4] rfl) (jD.sub [0, 1, 2, 3, 4] (by decide) rfl) jS d_Mod_decode_20
  ·
    refine lv_iload_n jx jb d_Mod_decode_7 rfl (lv_at jl 1 rfl) ?_
    refine lv_iconst (v := iZ 1) jx jb d_Mod_decode_8 rfl ?_
    refine z_icmp_lt (tgt := 19) jx jb d_Mod_decode_9 (by decide) ⟨⟨by omega, by omega⟩, ⟨by decide, by decide⟩⟩ (fun hc9 => ?_) (fun hc9 => ?_)
    ·
      refine lv_iconst (v := iZ (-1)) jx jb d_Mod_decode_19 rfl ?_
      exact jret _ _ _ (oL, bR, xo) _ _ (Or.inl rfl) (Or.inl ⟨rfl, by omega, rfl, rfl⟩) (jP.sub [0, 1, 2, 3, 4] rfl) (jD.sub [0, 1, 2, 3, 4] (by decide) rfl) jS d_Mod_decode_20
    ·
      refine lv_iload_n jx jb d_Mod_decode_12 rfl (lv_at jl 1 rfl) ?_
      refine lv_sipush (v := iZ 6000) jx jb d_Mod_decode_13 (by decide) ?_
      refine z_icmp_le (tgt := 21) jx jb d_Mod_decode_16 (by decide) ⟨⟨by omega, by omega⟩, ⟨by decide, by decide⟩⟩ (fun hc16 => ?_) (fun hc16 => ?_)
      ·
        have ho0 : 0 < o := by omega
        have ho5 : 5 ≤ o ∧ o ≤ 12 := by omega
        refine lv_aload_n jx jb d_Mod_decode_21 rfl (lv_at jl 0 rfl) ?_
        refine va_get (D := D) (ci := 4) (v := .int (iZ go)) (C := R_Mod) (T := F_Mod) (N := 14) jx jb jts i_Mod jown jK.1 jP 0 rfl rfl 2 (by decide) (jts _ fl_Mod_42) (fun _ h9 => h9) rfl d_Mod_decode_22 ?_
        refine lv_aload_n jx jb d_Mod_decode_25 rfl (lv_at jl 0 rfl) ?_
        refine va_get (D := D) (ci := 4) (v := .int (iZ iL)) (C := R_Mod) (T := F_Mod) (N := 14) jx jb jts i_Mod jown jK.1 jP 0 rfl rfl 1 (by decide) (jts _ fl_Mod_35) (fun _ h9 => h9) rfl d_Mod_decode_26 ?_
        refine z_icmp_eq (tgt := 46) jx jb d_Mod_decode_29 (by decide) ⟨⟨by omega, by omega⟩, ⟨by omega, by omega⟩⟩ (fun hc29 => ?_) (fun hc29 => ?_)
        ·
          refine lv_bipush (v := iZ (-2)) jx jb d_Mod_decode_46 (by decide) ?_
          exact jret _ _ _ (oL, bR, xo) _ _ (Or.inl rfl) (Or.inr (Or.inl ⟨rfl, by omega, by omega, rfl, rfl⟩)) (jP.sub [0, 1, 2, 3, 4] rfl) (jD.sub [0, 1, 2, 3, 4] (by decide) rfl) jS d_Mod_decode_48
        ·
          refine lv_aload_n jx jb d_Mod_decode_32 rfl (lv_at jl 0 rfl) ?_
          refine va_get (D := D) (ci := 4) (v := .ref ri) (C := R_Mod) (T := F_Mod) (N := 14) jx jb jts i_Mod jown jK.1 jP 0 rfl rfl 0 (by decide) (jts _ fl_Mod_7) (fun _ h9 => h9) rfl d_Mod_decode_33 ?_
          refine lv_aload_n jx jb d_Mod_decode_36 rfl (lv_at jl 0 rfl) ?_
          refine va_get (D := D) (ci := 4) (v := .int (iZ iL)) (C := R_Mod) (T := F_Mod) (N := 14) jx jb jts i_Mod jown jK.1 jP 0 rfl rfl 1 (by decide) (jts _ fl_Mod_35) (fun _ h9 => h9) rfl d_Mod_decode_37 ?_
          refine lv_iconst (v := iZ 1) jx jb d_Mod_decode_40 rfl ?_
          refine z_isub jx jb d_Mod_decode_41 ?_
          have hxl := hxi (iL - 1).toNat (by omega)
          refine z_iald jx jb jK.1 jP 1 0 rfl rfl ((iL - 1).toNat) (by omega) d_Mod_decode_42 ?_
          refine z_if_ne (tgt := 49) jx jb d_Mod_decode_43 (by decide) ⟨by omega, by omega⟩ (fun hc43 => ?_) (fun hc43 => ?_)
          ·
            have hok : 0 < o ∧ 1 ≤ x ∧ x ≤ 6000 ∧ go < iL ∧ (xi (iL - 1).toNat) ≠ 0 := ⟨by omega, by omega, by omega, by omega, hc43⟩
            have hz8 := zlog8 (y := (xi (iL - 1).toNat)) (by omega)
            refine lv_bipush (v := iZ 8) jx jb d_Mod_decode_49 (by decide) ?_
            refine lv_aload_n jx jb d_Mod_decode_51 rfl (lv_at jl 0 rfl) ?_
            refine va_get (D := D) (ci := 4) (v := .int (iZ iL)) (C := R_Mod) (T := F_Mod) (N := 14) jx jb jts i_Mod jown jK.1 jP 0 rfl rfl 1 (by decide) (jts _ fl_Mod_35) (fun _ h9 => h9) rfl d_Mod_decode_52 ?_
            refine lv_aload_n jx jb d_Mod_decode_55 rfl (lv_at jl 0 rfl) ?_
            refine va_get (D := D) (ci := 4) (v := .int (iZ go)) (C := R_Mod) (T := F_Mod) (N := 14) jx jb jts i_Mod jown jK.1 jP 0 rfl rfl 2 (by decide) (jts _ fl_Mod_42) (fun _ h9 => h9) rfl d_Mod_decode_56 ?_
            refine z_isub jx jb d_Mod_decode_59 ?_
            refine z_imul jx jb d_Mod_decode_60 ?_
            refine lv_iconst (v := iZ 1) jx jb d_Mod_decode_61 rfl ?_
            refine z_isub jx jb d_Mod_decode_62 ?_
            refine z_top (((8 * (iL - go) - 1).toNat : Nat) : Int) (by omega) ?_
            refine lv_istore_n (lv' := [(2, .int (iZ (((8 * (iL - go) - 1).toNat : Nat) : Int))), (0, .ref r), (1, .int (iZ x))]) jx jb d_Mod_decode_63 rfl jl (by decide) rfl (fun ls jl => ?_)
            have hloop64 : ∀ (nF : Nat) (e1 : Nat) (bR2 : Int), e1 < nF → ((8 * (iL - 1 - go) + (zlog (xi (iL - 1).toNat) : Int)) ≤ (e1 : Int) ∧ (e1 : Int) ≤ 8 * (iL - 1 - go) + 7) → ∀ (H : Heap) (locs : List Loc), va_P D classes [(r, .inr (4, [.ref ri, .int (iZ iL), .int (iZ go), .ref ro, .int (iZ oL), .ref rc, .int (iZ (o : Int)), .ref rp, .ref rs, .ref rd, .ref rk, .ref rh, .int (iZ bP), .int (iZ bR2)])), (ri, .inl (cI, 6000, .inl (zA xi))), (rp, .inl (cI, 256, .inl (zA xp))), (rs, .inl (cI, 4096, .inl (zA xs))), (ro, .inl (cI, 6000, .inl (zA xo)))] H → va_D A [(r, .inr (4, [.ref ri, .int (iZ iL), .int (iZ go), .ref ro, .int (iZ oL), .ref rc, .int (iZ (o : Int)), .ref rp, .ref rs, .ref rd, .ref rk, .ref rh, .int (iZ bP), .int (iZ bR2)])), (ri, .inl (cI, 6000, .inl (zA xi))), (rp, .inl (cI, 256, .inl (zA xp))), (rs, .inl (cI, 4096, .inl (zA xs))), (ro, .inl (cI, 6000, .inl (zA xo)))] → va_S A s.heap H locs → ∀ ls : Array Slot, lv_has ls 4 [(0, .ref r), (1, .int (iZ x)), (2, .int (iZ (e1 : Int)))] → W p l e rm_M_decode s m args below meth c H locs 0 0 Q (F0 m 64 ls []) := by
              intro nF
              induction nF with
              | zero => intro e1 bR2 hm; exact absurd hm (Nat.not_lt_zero _)
              | succ nF ih64 =>
                intro e1 bR2 hm he1 H locs jP jD jS ls jl
                have heb := end_bit (b := xi) (h := (iL - 1).toNat) (j := e1 - 8 * (iL - 1 - go).toNat) (q := 8 * go.toNat + e1) (by omega) (by omega) (by omega)
                refine lv_aload_n jx jb d_Mod_decode_64 rfl (lv_at jl 0 rfl) ?_
                refine lv_iload_n jx jb d_Mod_decode_65 rfl (lv_at jl 2 rfl) ?_
                refine lv_iconst (v := iZ 1) jx jb d_Mod_decode_66 rfl ?_
                refine z_top ((1 : Nat) : Int) (rfl) ?_
                refine z_backi (wr := [(rp, .inl (cI, 256, .inl (zA xp))), (rs, .inl (cI, 4096, .inl (zA xs))), (ro, .inl (cI, 6000, .inl (zA xo)))]) jP jD jS jA [0, 1] [2, 3, 4] rfl rfl (by decide) (by decide) (va_runV (As := [.int (iZ (e1 : Int)), .int (iZ ((1 : Nat) : Int))]) (rest := []) ⟨jx, jb, jml, jown, jts⟩ (c_M_bitsAt l D cI cB cZ H.size r ri ro rc rp rs rd rk rh iL go oL o bP bR2 xi e1 (1 : Nat) (by first | assumption | omega) (by omega) (by first | assumption | omega) (by omega) (by decide) (by omega)) (zc_V 2 jts cd_Mod_bitsAt lk_Mod_135 im_Mod_bitsAt se_Mod_bitsAt in_Mod hd_Mod_bitsAt ⟨Nat.le_of_ble_eq_true rfl, Nat.le_of_ble_eq_true rfl⟩ rfl rfl) (z_preV jK jP jD [0, 1] (by decide) rfl rfl rfl rfl) rfl rfl jl.1 rfl (lv_room (Nat.le_of_ble_eq_true rfl)) d_Mod_decode_67 ⟨Nat.le_of_ble_eq_true rfl, Nat.le_of_ble_eq_true rfl⟩) (fun z67 u67 H locs hz67 jP jD jS => ?_)
                obtain ⟨bR1_67, rfl⟩ : ∃ z, z = u67 := ⟨_, rfl⟩
                have jP : va_P D classes [(r, .inr (4, [.ref ri, .int (iZ iL), .int (iZ go), .ref ro, .int (iZ oL), .ref rc, .int (iZ (o : Int)), .ref rp, .ref rs, .ref rd, .ref rk, .ref rh, .int (iZ bP), .int (iZ bR1_67)])), (ri, .inl (cI, 6000, .inl (zA xi))), (rp, .inl (cI, 256, .inl (zA xp))), (rs, .inl (cI, 4096, .inl (zA xs))), (ro, .inl (cI, 6000, .inl (zA xo)))] H := jP.sub [3, 4, 0, 1, 2] rfl
                have jD : va_D A [(r, .inr (4, [.ref ri, .int (iZ iL), .int (iZ go), .ref ro, .int (iZ oL), .ref rc, .int (iZ (o : Int)), .ref rp, .ref rs, .ref rd, .ref rk, .ref rh, .int (iZ bP), .int (iZ bR1_67)])), (ri, .inl (cI, 6000, .inl (zA xi))), (rp, .inl (cI, 256, .inl (zA xp))), (rs, .inl (cI, 4096, .inl (zA xs))), (ro, .inl (cI, 6000, .inl (zA xo)))] := jD.sub [3, 4, 0, 1, 2] (by decide) rfl
                obtain ⟨rfl, hb67⟩ := hz67
                refine z_if_ne (tgt := 79) jx jb d_Mod_decode_70 (by decide) ⟨by omega, by omega⟩ (fun hc70 => ?_) (fun hc70 => ?_)
                ·
                  have he2 : (e1 : Int) = (8 * (iL - 1 - go) + (zlog (xi (iL - 1).toNat) : Int)) := by omega
                  refine lv_aload_n jx jb d_Mod_decode_79 rfl (lv_at jl 0 rfl) ?_
                  refine lv_iload_n jx jb d_Mod_decode_80 rfl (lv_at jl 2 rfl) ?_
                  refine z_top (8 * (iL - 1 - go) + (zlog (xi (iL - 1).toNat) : Int)) (he2) ?_
                  refine lv_iload_n jx jb d_Mod_decode_81 rfl (lv_at jl 1 rfl) ?_
                  refine lv_iconst (v := iZ 0) jx jb d_Mod_decode_82 rfl ?_
                  refine z_backi (wr := [(ro, .inl (cI, 6000, .inl (zA xo)))]) jP jD jS jA [0, 1, 2, 3] [4] rfl rfl (by decide) (by decide) (va_runV (As := [.int (iZ (8 * (iL - 1 - go) + (zlog (xi (iL - 1).toNat) : Int))), .int (iZ x), .int (iZ 0)]) (rest := []) ⟨jx, jb, jml, jown, jts⟩ (c_M_followF l D cI cB cZ H.size r ri ro rc rp rs rd rk rh iL go oL o bP bR1_67 xi xp xs (8 * (iL - 1 - go) + (zlog (xi (iL - 1).toNat) : Int)) x (by first | assumption | omega) (by omega) (by first | assumption | omega) (by first | assumption | omega) (by first | assumption | omega) (ho5) (hnum ho0) (by omega) (by omega)) (zc_V 3 jts cd_Mod_follow lk_Mod_138 im_Mod_follow se_Mod_follow in_Mod hd_Mod_follow ⟨Nat.le_of_ble_eq_true rfl, Nat.le_of_ble_eq_true rfl⟩ rfl rfl) (z_preV jK jP jD [0, 1, 2, 3] (by decide) rfl rfl rfl rfl) rfl rfl jl.1 rfl (lv_room (Nat.le_of_ble_eq_true rfl)) d_Mod_decode_83 ⟨Nat.le_of_ble_eq_true rfl, Nat.le_of_ble_eq_true rfl⟩) (fun z83 u83 H locs hz83 jP jD jS => ?_)
                  obtain ⟨bR1_83, rfl⟩ : ∃ z, z = u83 := ⟨_, rfl⟩
                  have jP : va_P D classes [(r, .inr (4, [.ref ri, .int (iZ iL), .int (iZ go), .ref ro, .int (iZ oL), .ref rc, .int (iZ (o : Int)), .ref rp, .ref rs, .ref rd, .ref rk, .ref rh, .int (iZ bP), .int (iZ bR1_83)])), (ri, .inl (cI, 6000, .inl (zA xi))), (rp, .inl (cI, 256, .inl (zA xp))), (rs, .inl (cI, 4096, .inl (zA xs))), (ro, .inl (cI, 6000, .inl (zA xo)))] H := jP.sub [1, 2, 3, 4, 0] rfl
                  have jD : va_D A [(r, .inr (4, [.ref ri, .int (iZ iL), .int (iZ go), .ref ro, .int (iZ oL), .ref rc, .int (iZ (o : Int)), .ref rp, .ref rs, .ref rd, .ref rk, .ref rh, .int (iZ bP), .int (iZ bR1_83)])), (ri, .inl (cI, 6000, .inl (zA xi))), (rp, .inl (cI, 256, .inl (zA xp))), (rs, .inl (cI, 4096, .inl (zA xs))), (ro, .inl (cI, 6000, .inl (zA xo)))] := jD.sub [1, 2, 3, 4, 0] (by decide) rfl
                  have hz83 := and_or_d hz83
                  rcases hz83 with ⟨hrg83, ha83, hb83⟩ | ⟨hrg83, ha83, hb83⟩
                  ·
                    refine lv_istore_n (lv' := [(3, .int (iZ z83)), (0, .ref r), (1, .int (iZ x)), (2, .int (iZ (e1 : Int)))]) jx jb d_Mod_decode_86 rfl jl (by decide) rfl (fun ls jl => ?_)
                    refine lv_iload_n jx jb d_Mod_decode_87 rfl (lv_at jl 0 rfl) ?_
                    refine z_if_eq (tgt := 103) jx jb d_Mod_decode_88 (by decide) ⟨by omega, by omega⟩ (fun hc88 => ?_) (fun hc88 => ?_)
                    ·
                      exfalso; omega
                    ·
                      refine lv_iload_n jx jb d_Mod_decode_91 rfl (lv_at jl 0 rfl) ?_
                      refine z_if_ge (tgt := 100) jx jb d_Mod_decode_92 (by decide) ⟨by omega, by omega⟩ (fun hc92 => ?_) (fun hc92 => ?_)
                      ·
                        exfalso; omega
                      ·
                        refine lv_bipush (v := iZ (-3)) jx jb d_Mod_decode_95 (by decide) ?_
                        refine lv_goto (tgt := 102) jx jb d_Mod_decode_97 (by decide) ?_
                        exact jret _ _ _ (oL, bR1_83, xo) _ _ (Or.inl rfl) (Or.inr (Or.inr (Or.inl ⟨rfl, hok, hb83, rfl, rfl⟩))) (jP.sub [0, 1, 2, 3, 4] rfl) (jD.sub [0, 1, 2, 3, 4] (by decide) rfl) jS d_Mod_decode_102
                  ·
                    refine lv_istore_n (lv' := [(3, .int (iZ z83)), (0, .ref r), (1, .int (iZ x)), (2, .int (iZ (e1 : Int)))]) jx jb d_Mod_decode_86 rfl jl (by decide) rfl (fun ls jl => ?_)
                    refine lv_iload_n jx jb d_Mod_decode_87 rfl (lv_at jl 0 rfl) ?_
                    refine z_if_eq (tgt := 103) jx jb d_Mod_decode_88 (by decide) ⟨by omega, by omega⟩ (fun hc88 => ?_) (fun hc88 => ?_)
                    ·
                      refine lv_aload_n jx jb d_Mod_decode_103 rfl (lv_at jl 1 rfl) ?_
                      refine lv_iload_n jx jb d_Mod_decode_104 rfl (lv_at jl 3 rfl) ?_
                      refine z_top (8 * (iL - 1 - go) + (zlog (xi (iL - 1).toNat) : Int)) (he2) ?_
                      refine lv_iload_n jx jb d_Mod_decode_105 rfl (lv_at jl 2 rfl) ?_
                      refine lv_iconst (v := iZ 1) jx jb d_Mod_decode_106 rfl ?_
                      refine z_backi (wr := []) jP jD jS jA [0, 1, 2, 3, 4] [] rfl rfl (by decide) (by decide) (va_runV (As := [.int (iZ (8 * (iL - 1 - go) + (zlog (xi (iL - 1).toNat) : Int))), .int (iZ x), .int (iZ 1)]) (rest := []) ⟨jx, jb, jml, jown, jts⟩ (c_M_followT l D cI cB cZ H.size r ri ro rc rp rs rd rk rh iL go oL o bP bR1_83 xi xp xs xo (8 * (iL - 1 - go) + (zlog (xi (iL - 1).toNat) : Int)) x (by first | assumption | omega) (by omega) (by first | assumption | omega) (by first | assumption | omega) (by first | assumption | omega) (ho5) (hnum ho0) (by omega) (by omega) (by omega) (hxo)) (zc_V 3 jts cd_Mod_follow lk_Mod_138 im_Mod_follow se_Mod_follow in_Mod hd_Mod_follow ⟨Nat.le_of_ble_eq_true rfl, Nat.le_of_ble_eq_true rfl⟩ rfl rfl) (z_preV jK jP jD [0, 1, 2, 3, 4] (by decide) rfl rfl rfl rfl) rfl rfl jl.1 rfl (lv_room (Nat.le_of_ble_eq_true rfl)) d_Mod_decode_107 ⟨Nat.le_of_ble_eq_true rfl, Nat.le_of_ble_eq_true rfl⟩) (fun z107 u107 H locs hz107 jP jD jS => ?_)
                      obtain ⟨bR1_107, xo1_107⟩ := u107
                      have jP : va_P D classes [(r, .inr (4, [.ref ri, .int (iZ iL), .int (iZ go), .ref ro, .int (iZ oL), .ref rc, .int (iZ (o : Int)), .ref rp, .ref rs, .ref rd, .ref rk, .ref rh, .int (iZ bP), .int (iZ bR1_107)])), (ri, .inl (cI, 6000, .inl (zA xi))), (rp, .inl (cI, 256, .inl (zA xp))), (rs, .inl (cI, 4096, .inl (zA xs))), (ro, .inl (cI, 6000, .inl (zA xo1_107)))] H := jP.sub [0, 1, 2, 3, 4] rfl
                      have jD : va_D A [(r, .inr (4, [.ref ri, .int (iZ iL), .int (iZ go), .ref ro, .int (iZ oL), .ref rc, .int (iZ (o : Int)), .ref rp, .ref rs, .ref rd, .ref rk, .ref rh, .int (iZ bP), .int (iZ bR1_107)])), (ri, .inl (cI, 6000, .inl (zA xi))), (rp, .inl (cI, 256, .inl (zA xp))), (rs, .inl (cI, 4096, .inl (zA xs))), (ro, .inl (cI, 6000, .inl (zA xo1_107)))] := jD.sub [0, 1, 2, 3, 4] (by decide) rfl
                      have hq107 := hz107
                      refine lv_pop jx jb d_Mod_decode_110 rfl ?_
                      refine lv_aload_n jx jb d_Mod_decode_111 rfl (lv_at jl 1 rfl) ?_
                      refine lv_iload_n jx jb d_Mod_decode_112 rfl (lv_at jl 2 rfl) ?_
                      refine va_put (D := D) (ci := 4) (v := .int (iZ x)) (ty := .int) (C := R_Mod) (T := F_Mod) (N := 14) jx jb jts i_Mod t_Mod t_Mod_ok n_Mod jown jK.1 jP jD jS 0 rfl rfl 4 (by decide) (jts _ fl_Mod_39) (fun _ h9 => h9) rfl (by decide +kernel) rfl rfl (Nat.le_of_ble_eq_true rfl) d_Mod_decode_113 (fun H locs jP jD jS => ?_)
                      have jP : va_P D classes [(r, .inr (4, [.ref ri, .int (iZ iL), .int (iZ go), .ref ro, .int (iZ x), .ref rc, .int (iZ (o : Int)), .ref rp, .ref rs, .ref rd, .ref rk, .ref rh, .int (iZ bP), .int (iZ bR1_107)])), (ri, .inl (cI, 6000, .inl (zA xi))), (rp, .inl (cI, 256, .inl (zA xp))), (rs, .inl (cI, 4096, .inl (zA xs))), (ro, .inl (cI, 6000, .inl (zA xo1_107)))] H := jP
                      have jD : va_D A [(r, .inr (4, [.ref ri, .int (iZ iL), .int (iZ go), .ref ro, .int (iZ x), .ref rc, .int (iZ (o : Int)), .ref rp, .ref rs, .ref rd, .ref rk, .ref rh, .int (iZ bP), .int (iZ bR1_107)])), (ri, .inl (cI, 6000, .inl (zA xi))), (rp, .inl (cI, 256, .inl (zA xp))), (rs, .inl (cI, 4096, .inl (zA xs))), (ro, .inl (cI, 6000, .inl (zA xo1_107)))] := jD
                      refine lv_iload_n jx jb d_Mod_decode_116 rfl (lv_at jl 2 rfl) ?_
                      exact jret _ _ _ (x, bR1_107, xo1_107) _ _ (Or.inl rfl) (Or.inr (Or.inr (Or.inr (Or.inr ⟨rfl, hok, by omega, rfl, hq107.1, hq107.2⟩)))) (jP.sub [0, 1, 2, 3, 4] rfl) (jD.sub [0, 1, 2, 3, 4] (by decide) rfl) jS d_Mod_decode_117
                    ·
                      refine lv_iload_n jx jb d_Mod_decode_91 rfl (lv_at jl 0 rfl) ?_
                      refine z_if_ge (tgt := 100) jx jb d_Mod_decode_92 (by decide) ⟨by omega, by omega⟩ (fun hc92 => ?_) (fun hc92 => ?_)
                      ·
                        refine lv_bipush (v := iZ (-4)) jx jb d_Mod_decode_100 (by decide) ?_
                        exact jret _ _ _ (oL, bR1_83, xo) _ _ (Or.inl rfl) (Or.inr (Or.inr (Or.inr (Or.inl ⟨rfl, hok, by omega, rfl, rfl⟩)))) (jP.sub [0, 1, 2, 3, 4] rfl) (jD.sub [0, 1, 2, 3, 4] (by decide) rfl) jS d_Mod_decode_102
                      ·
                        exfalso; omega
                ·
                  refine lv_iinc (v := iZ ((e1 - 1 : Nat) : Int)) (lv' := [(2, .int (iZ ((e1 - 1 : Nat) : Int))), (0, .ref r), (1, .int (iZ x))]) jx jb d_Mod_decode_73 jl (k := 2) rfl (by rw [show ((e1 - 1 : Nat) : Int) = (e1 : Int) + (-1) from by omega]; exact iZ_add _ _) (by decide) rfl (fun ls jl => ?_)
                  refine lv_goto (tgt := 64) jx jb d_Mod_decode_76 (by decide) ?_
                  exact ih64 (e1 - 1) bR1_67 (by omega) (by omega) _ _ (jP.sub [0, 1, 2, 3, 4] rfl) (jD.sub [0, 1, 2, 3, 4] (by decide) rfl) jS _ (lv_sub jl [1, 2, 0] rfl)
            exact hloop64 (((8 * (iL - go) - 1).toNat) + 1) ((8 * (iL - go) - 1).toNat) bR (Nat.lt_succ_self _) (by omega) _ _ (jP.sub [0, 1, 2, 3, 4] rfl) (jD.sub [0, 1, 2, 3, 4] (by decide) rfl) jS _ (lv_sub jl [1, 2, 0] rfl)
          ·
            refine lv_bipush (v := iZ (-2)) jx jb d_Mod_decode_46 (by decide) ?_
            exact jret _ _ _ (oL, bR, xo) _ _ (Or.inl rfl) (Or.inr (Or.inl ⟨rfl, by omega, by omega, rfl, rfl⟩)) (jP.sub [0, 1, 2, 3, 4] rfl) (jD.sub [0, 1, 2, 3, 4] (by decide) rfl) jS d_Mod_decode_48
      ·
        refine lv_iconst (v := iZ (-1)) jx jb d_Mod_decode_19 rfl ?_
        exact jret _ _ _ (oL, bR, xo) _ _ (Or.inl rfl) (Or.inl ⟨rfl, by omega, rfl, rfl⟩) (jP.sub [0, 1, 2, 3, 4] rfl) (jD.sub [0, 1, 2, 3, 4] (by decide) rfl) jS d_Mod_decode_20
