theorem cd_Mod_beginOut : Cond.code y_Mod_beginOut b_Mod_beginOut 2 none ∈ zT := zT_of (List.mem_of_getElem? (i := 600) (by decide +kernel)) rfl
theorem hd_Mod_beginOut : y_Mod_beginOut.cls ≠ "java/lang/invoke/MethodHandle" ∧ y_Mod_beginOut.cls ≠ "java/lang/invoke/VarHandle" ∧ (parseMethodDescriptor y_Mod_beginOut.desc).map (fun d => d.parameters.length) = some 0 := by decide +kernel
theorem lk_Mod_87 : Cond.methodLink R_Mod 87 y_Mod_beginOut ∈ zT := zT_of (List.mem_of_getElem? (i := 597) (by decide +kernel)) rfl
theorem im_Mod_beginOut : Cond.instanceMethod y_Mod_beginOut ∈ zT := zT_of (List.mem_of_getElem? (i := 599) (by decide +kernel)) rfl
theorem se_Mod_beginOut : Cond.selects R_Mod y_Mod_beginOut y_Mod_beginOut ∈ zT := zT_of (List.mem_of_getElem? (i := 17) (by decide +kernel)) rfl
theorem cd_Mod_endOut : Cond.code y_Mod_endOut b_Mod_endOut 1 (some .int) ∈ zT := zT_of (List.mem_of_getElem? (i := 615) (by decide +kernel)) rfl
theorem hd_Mod_endOut : y_Mod_endOut.cls ≠ "java/lang/invoke/MethodHandle" ∧ y_Mod_endOut.cls ≠ "java/lang/invoke/VarHandle" ∧ (parseMethodDescriptor y_Mod_endOut.desc).map (fun d => d.parameters.length) = some 0 := by decide +kernel
theorem lk_Mod_93 : Cond.methodLink R_Mod 93 y_Mod_endOut ∈ zT := zT_of (List.mem_of_getElem? (i := 612) (by decide +kernel)) rfl
theorem im_Mod_endOut : Cond.instanceMethod y_Mod_endOut ∈ zT := zT_of (List.mem_of_getElem? (i := 614) (by decide +kernel)) rfl
theorem se_Mod_endOut : Cond.selects R_Mod y_Mod_endOut y_Mod_endOut ∈ zT := zT_of (List.mem_of_getElem? (i := 20) (by decide +kernel)) rfl
theorem cd_Mod_putNumber : Cond.code y_Mod_putNumber b_Mod_putNumber 6 none ∈ zT := zT_of (List.mem_of_getElem? (i := 608) (by decide +kernel)) rfl
theorem hd_Mod_putNumber : y_Mod_putNumber.cls ≠ "java/lang/invoke/MethodHandle" ∧ y_Mod_putNumber.cls ≠ "java/lang/invoke/VarHandle" ∧ (parseMethodDescriptor y_Mod_putNumber.desc).map (fun d => d.parameters.length) = some 2 := by decide +kernel
theorem lk_Mod_90 : Cond.methodLink R_Mod 90 y_Mod_putNumber ∈ zT := zT_of (List.mem_of_getElem? (i := 605) (by decide +kernel)) rfl
theorem im_Mod_putNumber : Cond.instanceMethod y_Mod_putNumber ∈ zT := zT_of (List.mem_of_getElem? (i := 607) (by decide +kernel)) rfl
theorem se_Mod_putNumber : Cond.selects R_Mod y_Mod_putNumber y_Mod_putNumber ∈ zT := zT_of (List.mem_of_getElem? (i := 19) (by decide +kernel)) rfl
theorem d_Mod_describe_0 : decode b_Mod_describe 0 = .ok (.aload_n 0, 1) := by decide +kernel
theorem d_Mod_describe_1 : decode b_Mod_describe 1 = .ok (.getfield 50, 3) := by decide +kernel
theorem d_Mod_describe_4 : decode b_Mod_describe 4 = .ok (.ifCond .ne 5, 3) := by decide +kernel
theorem d_Mod_describe_7 : decode b_Mod_describe 7 = .ok (.iconst (-1), 1) := by decide +kernel
theorem d_Mod_describe_8 : decode b_Mod_describe 8 = .ok (.ireturn, 1) := by decide +kernel
theorem d_Mod_describe_9 : decode b_Mod_describe 9 = .ok (.aload_n 0, 1) := by decide +kernel
theorem d_Mod_describe_10 : decode b_Mod_describe 10 = .ok (.invokevirtual 87, 3) := by decide +kernel
theorem d_Mod_describe_13 : decode b_Mod_describe 13 = .ok (.aload_n 0, 1) := by decide +kernel
theorem d_Mod_describe_14 : decode b_Mod_describe 14 = .ok (.aload_n 0, 1) := by decide +kernel
theorem d_Mod_describe_15 : decode b_Mod_describe 15 = .ok (.getfield 50, 3) := by decide +kernel
theorem d_Mod_describe_18 : decode b_Mod_describe 18 = .ok (.iconst 5, 1) := by decide +kernel
theorem d_Mod_describe_19 : decode b_Mod_describe 19 = .ok (.isub, 1) := by decide +kernel
theorem d_Mod_describe_20 : decode b_Mod_describe 20 = .ok (.iconst 4, 1) := by decide +kernel
theorem d_Mod_describe_21 : decode b_Mod_describe 21 = .ok (.invokevirtual 83, 3) := by decide +kernel
theorem d_Mod_describe_24 : decode b_Mod_describe 24 = .ok (.iconst 1, 1) := by decide +kernel
theorem d_Mod_describe_25 : decode b_Mod_describe 25 = .ok (.aload_n 0, 1) := by decide +kernel
theorem d_Mod_describe_26 : decode b_Mod_describe 26 = .ok (.getfield 50, 3) := by decide +kernel
theorem d_Mod_describe_29 : decode b_Mod_describe 29 = .ok (.ishl, 1) := by decide +kernel
theorem d_Mod_describe_30 : decode b_Mod_describe 30 = .ok (.istore_n 1, 1) := by decide +kernel
theorem d_Mod_describe_31 : decode b_Mod_describe 31 = .ok (.iconst 0, 1) := by decide +kernel
theorem d_Mod_describe_32 : decode b_Mod_describe 32 = .ok (.istore_n 2, 1) := by decide +kernel
theorem d_Mod_describe_33 : decode b_Mod_describe 33 = .ok (.iload_n 1, 1) := by decide +kernel
theorem d_Mod_describe_34 : decode b_Mod_describe 34 = .ok (.ifCond .le 116, 3) := by decide +kernel
theorem d_Mod_describe_37 : decode b_Mod_describe 37 = .ok (.iload_n 2, 1) := by decide +kernel
theorem d_Mod_describe_38 : decode b_Mod_describe 38 = .ok (.sipush 256, 3) := by decide +kernel
theorem d_Mod_describe_41 : decode b_Mod_describe 41 = .ok (.if_icmp .ge 109, 3) := by decide +kernel
theorem d_Mod_describe_44 : decode b_Mod_describe 44 = .ok (.aload_n 0, 1) := by decide +kernel
theorem d_Mod_describe_45 : decode b_Mod_describe 45 = .ok (.aload_n 0, 1) := by decide +kernel
theorem d_Mod_describe_46 : decode b_Mod_describe 46 = .ok (.getfield 19, 3) := by decide +kernel
theorem d_Mod_describe_49 : decode b_Mod_describe 49 = .ok (.iload_n 2, 1) := by decide +kernel
theorem d_Mod_describe_50 : decode b_Mod_describe 50 = .ok (.iaload, 1) := by decide +kernel
theorem d_Mod_describe_51 : decode b_Mod_describe 51 = .ok (.iconst 1, 1) := by decide +kernel
theorem d_Mod_describe_52 : decode b_Mod_describe 52 = .ok (.iadd, 1) := by decide +kernel
theorem d_Mod_describe_53 : decode b_Mod_describe 53 = .ok (.iload_n 1, 1) := by decide +kernel
theorem d_Mod_describe_54 : decode b_Mod_describe 54 = .ok (.invokevirtual 90, 3) := by decide +kernel
theorem d_Mod_describe_57 : decode b_Mod_describe 57 = .ok (.iload_n 1, 1) := by decide +kernel
theorem d_Mod_describe_58 : decode b_Mod_describe 58 = .ok (.aload_n 0, 1) := by decide +kernel
theorem d_Mod_describe_59 : decode b_Mod_describe 59 = .ok (.getfield 19, 3) := by decide +kernel
theorem d_Mod_describe_62 : decode b_Mod_describe 62 = .ok (.iload_n 2, 1) := by decide +kernel
theorem d_Mod_describe_63 : decode b_Mod_describe 63 = .ok (.iaload, 1) := by decide +kernel
theorem d_Mod_describe_64 : decode b_Mod_describe 64 = .ok (.invokestatic 46, 3) := by decide +kernel
theorem d_Mod_describe_67 : decode b_Mod_describe 67 = .ok (.isub, 1) := by decide +kernel
theorem d_Mod_describe_68 : decode b_Mod_describe 68 = .ok (.istore_n 1, 1) := by decide +kernel
theorem d_Mod_describe_69 : decode b_Mod_describe 69 = .ok (.iconst 0, 1) := by decide +kernel
theorem d_Mod_describe_70 : decode b_Mod_describe 70 = .ok (.istore_n 3, 1) := by decide +kernel
theorem d_Mod_describe_71 : decode b_Mod_describe 71 = .ok (.aload_n 0, 1) := by decide +kernel
theorem d_Mod_describe_72 : decode b_Mod_describe 72 = .ok (.getfield 19, 3) := by decide +kernel
theorem d_Mod_describe_75 : decode b_Mod_describe 75 = .ok (.iload_n 2, 1) := by decide +kernel
theorem d_Mod_describe_76 : decode b_Mod_describe 76 = .ok (.iaload, 1) := by decide +kernel
theorem d_Mod_describe_77 : decode b_Mod_describe 77 = .ok (.ifCond .ne 64, 3) := by decide +kernel
theorem d_Mod_describe_80 : decode b_Mod_describe 80 = .ok (.iload_n 2, 1) := by decide +kernel
theorem d_Mod_describe_81 : decode b_Mod_describe 81 = .ok (.iconst 1, 1) := by decide +kernel
theorem d_Mod_describe_82 : decode b_Mod_describe 82 = .ok (.iadd, 1) := by decide +kernel
theorem d_Mod_describe_83 : decode b_Mod_describe 83 = .ok (.iload_n 3, 1) := by decide +kernel
theorem d_Mod_describe_84 : decode b_Mod_describe 84 = .ok (.iadd, 1) := by decide +kernel
theorem d_Mod_describe_85 : decode b_Mod_describe 85 = .ok (.sipush 256, 3) := by decide +kernel
theorem d_Mod_describe_88 : decode b_Mod_describe 88 = .ok (.if_icmp .ge 22, 3) := by decide +kernel
theorem d_Mod_describe_91 : decode b_Mod_describe 91 = .ok (.aload_n 0, 1) := by decide +kernel
theorem d_Mod_describe_92 : decode b_Mod_describe 92 = .ok (.getfield 19, 3) := by decide +kernel
theorem d_Mod_describe_95 : decode b_Mod_describe 95 = .ok (.iload_n 2, 1) := by decide +kernel
theorem d_Mod_describe_96 : decode b_Mod_describe 96 = .ok (.iconst 1, 1) := by decide +kernel
theorem d_Mod_describe_97 : decode b_Mod_describe 97 = .ok (.iadd, 1) := by decide +kernel
theorem d_Mod_describe_98 : decode b_Mod_describe 98 = .ok (.iload_n 3, 1) := by decide +kernel
theorem d_Mod_describe_99 : decode b_Mod_describe 99 = .ok (.iadd, 1) := by decide +kernel
theorem d_Mod_describe_100 : decode b_Mod_describe 100 = .ok (.iaload, 1) := by decide +kernel
theorem d_Mod_describe_101 : decode b_Mod_describe 101 = .ok (.ifCond .ne 9, 3) := by decide +kernel
theorem d_Mod_describe_104 : decode b_Mod_describe 104 = .ok (.iinc 3 1, 3) := by decide +kernel
theorem d_Mod_describe_107 : decode b_Mod_describe 107 = .ok (.goto (-27), 3) := by decide +kernel
theorem d_Mod_describe_110 : decode b_Mod_describe 110 = .ok (.iconst 0, 1) := by decide +kernel
theorem d_Mod_describe_111 : decode b_Mod_describe 111 = .ok (.istore 4, 2) := by decide +kernel
theorem d_Mod_describe_113 : decode b_Mod_describe 113 = .ok (.iload 4, 2) := by decide +kernel
theorem d_Mod_describe_115 : decode b_Mod_describe 115 = .ok (.iload_n 3, 1) := by decide +kernel
theorem d_Mod_describe_116 : decode b_Mod_describe 116 = .ok (.iconst 3, 1) := by decide +kernel
theorem d_Mod_describe_117 : decode b_Mod_describe 117 = .ok (.idiv, 1) := by decide +kernel
theorem d_Mod_describe_118 : decode b_Mod_describe 118 = .ok (.if_icmp .ge 15, 3) := by decide +kernel
theorem d_Mod_describe_121 : decode b_Mod_describe 121 = .ok (.aload_n 0, 1) := by decide +kernel
theorem d_Mod_describe_122 : decode b_Mod_describe 122 = .ok (.iconst 3, 1) := by decide +kernel
theorem d_Mod_describe_123 : decode b_Mod_describe 123 = .ok (.iconst 2, 1) := by decide +kernel
theorem d_Mod_describe_124 : decode b_Mod_describe 124 = .ok (.invokevirtual 83, 3) := by decide +kernel
theorem d_Mod_describe_127 : decode b_Mod_describe 127 = .ok (.iinc 4 1, 3) := by decide +kernel
theorem d_Mod_describe_130 : decode b_Mod_describe 130 = .ok (.goto (-17), 3) := by decide +kernel
theorem d_Mod_describe_133 : decode b_Mod_describe 133 = .ok (.aload_n 0, 1) := by decide +kernel
theorem d_Mod_describe_134 : decode b_Mod_describe 134 = .ok (.iload_n 3, 1) := by decide +kernel
theorem d_Mod_describe_135 : decode b_Mod_describe 135 = .ok (.iconst 3, 1) := by decide +kernel
theorem d_Mod_describe_136 : decode b_Mod_describe 136 = .ok (.irem, 1) := by decide +kernel
theorem d_Mod_describe_137 : decode b_Mod_describe 137 = .ok (.iconst 2, 1) := by decide +kernel
theorem d_Mod_describe_138 : decode b_Mod_describe 138 = .ok (.invokevirtual 83, 3) := by decide +kernel
theorem d_Mod_describe_141 : decode b_Mod_describe 141 = .ok (.iload_n 2, 1) := by decide +kernel
theorem d_Mod_describe_142 : decode b_Mod_describe 142 = .ok (.iconst 1, 1) := by decide +kernel
theorem d_Mod_describe_143 : decode b_Mod_describe 143 = .ok (.iload_n 3, 1) := by decide +kernel
theorem d_Mod_describe_144 : decode b_Mod_describe 144 = .ok (.iadd, 1) := by decide +kernel
theorem d_Mod_describe_145 : decode b_Mod_describe 145 = .ok (.iadd, 1) := by decide +kernel
theorem d_Mod_describe_146 : decode b_Mod_describe 146 = .ok (.istore_n 2, 1) := by decide +kernel
theorem d_Mod_describe_147 : decode b_Mod_describe 147 = .ok (.goto (-114), 3) := by decide +kernel
theorem d_Mod_describe_150 : decode b_Mod_describe 150 = .ok (.aload_n 0, 1) := by decide +kernel
theorem d_Mod_describe_151 : decode b_Mod_describe 151 = .ok (.invokevirtual 93, 3) := by decide +kernel
theorem d_Mod_describe_154 : decode b_Mod_describe 154 = .ok (.ireturn, 1) := by decide +kernel
abbrev rm_M_describe : Room := { frames := 2, cells := 0, slots := 0, locals := 48 }
set_option maxHeartbeats 4000000 in
set_option maxRecDepth 100000 in
theorem c_M_describe (l : Launch) (D : va_G) (cI cB cZ : ClassId) (sz : Nat) (r : Nat) (ri : Nat) (ro : Nat) (rc : Nat) (rp : Nat) (rs : Nat) (rd : Nat) (rk : Nat) (rh : Nat) (iL : Int) (go : Int) (oL : Int) (o : Nat) (bP : Int) (bR : Int) (xp : Nat → Int) (xo : Nat → Int) (hpr : ∀ k, k < 256 → -1 ≤ xp k ∧ xp k ≤ 65536) (ho : o = 0 ∨ (5 ≤ o ∧ o ≤ 12)) (hsum : 0 < o → cum xp 256 = 2 ^ o) : Met l y_Mod_describe (.code y_Mod_describe b_Mod_describe 5 (some .int) :: zT) rm_M_describe (zPc D classes (TY cI cB cZ) [(r, .inr (4, [.ref ri, .int (iZ iL), .int (iZ go), .ref ro, .int (iZ oL), .ref rc, .int (iZ (o : Int)), .ref rp, .ref rs, .ref rd, .ref rk, .ref rh, .int (iZ bP), .int (iZ bR)])), (rp, .inl (cI, 256, .inl (zA xp))), (ro, .inl (cI, 6000, .inl (zA xo)))] sz [.ref r]) (zFi (S := Int × Int × (Nat → Int)) D classes (fun z u => (z = -1 ∧ o = 0 ∧ u.1 = oL ∧ u.2.2 = xo) ∨ (z = u.1 ∧ 0 < o ∧ u.1 = (((dC xp o).2 + 7) / 8 : Nat) ∧ mO (dC xp o).1 (dC xp o).2 u.2.2)) (fun u => [(r, .inr (4, [.ref ri, .int (iZ iL), .int (iZ go), .ref ro, .int (iZ u.1), .ref rc, .int (iZ (o : Int)), .ref rp, .ref rs, .ref rd, .ref rk, .ref rh, .int (iZ u.2.1), .int (iZ bR)])), (rp, .inl (cI, 256, .inl (zA xp))), (ro, .inl (cI, 6000, .inl (zA u.2.2)))]) (va_A [(r, .inr (4, [.ref ri, .int (iZ iL), .int (iZ go), .ref ro, .int (iZ oL), .ref rc, .int (iZ (o : Int)), .ref rp, .ref rs, .ref rd, .ref rk, .ref rh, .int (iZ bP), .int (iZ bR)])), (rp, .inl (cI, 256, .inl (zA xp))), (ro, .inl (cI, 6000, .inl (zA xo)))] sz)) 0 0 (va_A [(r, .inr (4, [.ref ri, .int (iZ iL), .int (iZ go), .ref ro, .int (iZ oL), .ref rc, .int (iZ (o : Int)), .ref rp, .ref rs, .ref rd, .ref rk, .ref rh, .int (iZ bP), .int (iZ bR)])), (rp, .inl (cI, 256, .inl (zA xp))), (ro, .inl (cI, 6000, .inl (zA xo)))] sz) := by
  refine z_ofi (by decide) (Nat.le_of_ble_eq_true rfl) (Or.inl rfl) ?_
  intro p e s m args below meth c A Q E jA jK jret H locs jP jD jS ls jl
  obtain ⟨jx, jb, jrt, jml, jown, jts, jlk⟩ := E
  have jown : s.vm.findClass R_Mod = some m.cls := jown
  have jl : lv_has ls 5 [(0, .ref r)] := jl
  refine lv_aload_n jx jb d_Mod_describe_0 rfl (lv_at jl 0 rfl) ?_
  refine va_get (D := D) (ci := 4) (v := .int (iZ (o : Int))) (C := R_Mod) (T := F_Mod) (N := 14) jx jb jts i_Mod jown jK.1 jP 0 rfl rfl 6 (by decide) (jts _ fl_Mod_50) (fun _ h9 => h9) rfl d_Mod_describe_1 ?_
  refine z_if_ne (tgt := 9) jx jb d_Mod_describe_4 (by decide) ⟨by omega, by omega⟩ (fun hc4 => ?_) (fun hc4 => ?_)
  ·
    have ho1 : 5 ≤ o ∧ o ≤ 12 := by omega
    have hp12 := p2_le ho1.2
    have hsm := hsum (by omega)
    refine lv_aload_n jx jb d_Mod_describe_9 rfl (lv_at jl 0 rfl) ?_
    refine z_backv (wr := [(rp, .inl (cI, 256, .inl (zA xp)))]) jP jD jS jA [0, 2] [1] rfl rfl (by decide) (by decide) (va_runV (As := []) (rest := []) ⟨jx, jb, jml, jown, jts⟩ (c_M_beginOut l D cI cB cZ H.size r ri ro rc rp rs rd rk rh iL go oL o bP bR xo) (zc_V 0 jts cd_Mod_beginOut lk_Mod_87 im_Mod_beginOut se_Mod_beginOut in_Mod hd_Mod_beginOut ⟨Nat.le_of_ble_eq_true rfl, Nat.le_of_ble_eq_true rfl⟩ rfl rfl) (z_preV jK jP jD [0, 2] (by decide) rfl rfl rfl rfl) rfl rfl jl.1 rfl (lv_room (Nat.le_of_ble_eq_true rfl)) d_Mod_describe_10 ⟨Nat.le_of_ble_eq_true rfl, Nat.le_of_ble_eq_true rfl⟩) (fun u10 H locs hu10 jP jD jS => ?_)
    obtain ⟨xo1_10, rfl⟩ : ∃ z, z = u10 := ⟨_, rfl⟩
    have jP : va_P D classes [(r, .inr (4, [.ref ri, .int (iZ iL), .int (iZ go), .ref ro, .int (iZ oL), .ref rc, .int (iZ (o : Int)), .ref rp, .ref rs, .ref rd, .ref rk, .ref rh, .int (iZ 0), .int (iZ bR)])), (rp, .inl (cI, 256, .inl (zA xp))), (ro, .inl (cI, 6000, .inl (zA xo1_10)))] H := jP.sub [1, 0, 2] rfl
    have jD : va_D A [(r, .inr (4, [.ref ri, .int (iZ iL), .int (iZ go), .ref ro, .int (iZ oL), .ref rc, .int (iZ (o : Int)), .ref rp, .ref rs, .ref rd, .ref rk, .ref rh, .int (iZ 0), .int (iZ bR)])), (rp, .inl (cI, 256, .inl (zA xp))), (ro, .inl (cI, 6000, .inl (zA xo1_10)))] := jD.sub [1, 0, 2] (by decide) rfl
    refine lv_aload_n jx jb d_Mod_describe_13 rfl (lv_at jl 0 rfl) ?_
    refine lv_aload_n jx jb d_Mod_describe_14 rfl (lv_at jl 0 rfl) ?_
    refine va_get (D := D) (ci := 4) (v := .int (iZ (o : Int))) (C := R_Mod) (T := F_Mod) (N := 14) jx jb jts i_Mod jown jK.1 jP 0 rfl rfl 6 (by decide) (jts _ fl_Mod_50) (fun _ h9 => h9) rfl d_Mod_describe_15 ?_
    refine lv_iconst (v := iZ 5) jx jb d_Mod_describe_18 rfl ?_
    refine z_isub jx jb d_Mod_describe_19 ?_
    refine z_top ((o - 5 : Nat) : Int) (by omega) ?_
    refine lv_iconst (v := iZ 4) jx jb d_Mod_describe_20 rfl ?_
    refine z_backv (wr := [(rp, .inl (cI, 256, .inl (zA xp)))]) jP jD jS jA [0, 2] [1] rfl rfl (by decide) (by decide) (va_runV (As := [.int (iZ ((o - 5 : Nat) : Int)), .int (iZ 4)]) (rest := []) ⟨jx, jb, jml, jown, jts⟩ (c_M_put l D cI cB cZ H.size r ri ro rc rp rs rd rk rh iL go oL o bR xo1_10 0 0 (o - 5 : Nat) 4 (hu10) (by omega) (by decide) (by decide)) (zc_V 2 jts cd_Mod_put lk_Mod_83 im_Mod_put se_Mod_put in_Mod hd_Mod_put ⟨Nat.le_of_ble_eq_true rfl, Nat.le_of_ble_eq_true rfl⟩ rfl rfl) (z_preV jK jP jD [0, 2] (by decide) rfl rfl rfl rfl) rfl rfl jl.1 rfl (lv_room (Nat.le_of_ble_eq_true rfl)) d_Mod_describe_21 ⟨Nat.le_of_ble_eq_true rfl, Nat.le_of_ble_eq_true rfl⟩) (fun u21 H locs hu21 jP jD jS => ?_)
    obtain ⟨xo1_21, rfl⟩ : ∃ z, z = u21 := ⟨_, rfl⟩
    have jP : va_P D classes [(r, .inr (4, [.ref ri, .int (iZ iL), .int (iZ go), .ref ro, .int (iZ oL), .ref rc, .int (iZ (o : Int)), .ref rp, .ref rs, .ref rd, .ref rk, .ref rh, .int (iZ ((0 + 4 : Nat) : Int)), .int (iZ bR)])), (rp, .inl (cI, 256, .inl (zA xp))), (ro, .inl (cI, 6000, .inl (zA xo1_21)))] H := jP.sub [1, 0, 2] rfl
    have jD : va_D A [(r, .inr (4, [.ref ri, .int (iZ iL), .int (iZ go), .ref ro, .int (iZ oL), .ref rc, .int (iZ (o : Int)), .ref rp, .ref rs, .ref rd, .ref rk, .ref rh, .int (iZ ((0 + 4 : Nat) : Int)), .int (iZ bR)])), (rp, .inl (cI, 256, .inl (zA xp))), (ro, .inl (cI, 6000, .inl (zA xo1_21)))] := jD.sub [1, 0, 2] (by decide) rfl
    refine lv_iconst (v := iZ 1) jx jb d_Mod_describe_24 rfl ?_
    refine lv_aload_n jx jb d_Mod_describe_25 rfl (lv_at jl 0 rfl) ?_
    refine va_get (D := D) (ci := 4) (v := .int (iZ (o : Int))) (C := R_Mod) (T := F_Mod) (N := 14) jx jb jts i_Mod jown jK.1 jP 0 rfl rfl 6 (by decide) (jts _ fl_Mod_50) (fun _ h9 => h9) rfl d_Mod_describe_26 ?_
    refine z_ishl jx jb d_Mod_describe_29 o (2 ^ o) (rfl) (by omega) ?_
    refine z_top (2 ^ o) (Int.one_mul _) ?_
    refine lv_istore_n (lv' := [(1, .int (iZ (2 ^ o))), (0, .ref r)]) jx jb d_Mod_describe_30 rfl jl (by decide) rfl (fun ls jl => ?_)
    refine lv_iconst (v := iZ 0) jx jb d_Mod_describe_31 rfl ?_
    refine lv_istore_n (lv' := [(2, .int (iZ 0)), (1, .int (iZ (2 ^ o))), (0, .ref r)]) jx jb d_Mod_describe_32 rfl jl (by decide) rfl (fun ls jl => ?_)
    have hloop33 : ∀ (nF : Nat) (y : Nat) (R2 : Int) (V2 : Nat) (B2 : Nat) (x2 : Nat → Int), 256 - y < nF → (y ≤ 256) → (R2 = 2 ^ o - cum xp y) → (mO V2 B2 x2) → (B2 ≤ 4 + 15 * y) → (shR xp (dC xp o) y R2 V2 B2) → ∀ (H : Heap) (locs : List Loc), va_P D classes [(r, .inr (4, [.ref ri, .int (iZ iL), .int (iZ go), .ref ro, .int (iZ oL), .ref rc, .int (iZ (o : Int)), .ref rp, .ref rs, .ref rd, .ref rk, .ref rh, .int (iZ (B2 : Int)), .int (iZ bR)])), (rp, .inl (cI, 256, .inl (zA xp))), (ro, .inl (cI, 6000, .inl (zA x2)))] H → va_D A [(r, .inr (4, [.ref ri, .int (iZ iL), .int (iZ go), .ref ro, .int (iZ oL), .ref rc, .int (iZ (o : Int)), .ref rp, .ref rs, .ref rd, .ref rk, .ref rh, .int (iZ (B2 : Int)), .int (iZ bR)])), (rp, .inl (cI, 256, .inl (zA xp))), (ro, .inl (cI, 6000, .inl (zA x2)))] → va_S A s.heap H locs → ∀ ls : Array Slot, lv_has ls 5 [(0, .ref r), (1, .int (iZ R2)), (2, .int (iZ (y : Int)))] → W p l e rm_M_describe s m args below meth c H locs 0 0 Q (F0 m 33 ls []) := by
      intro nF
      induction nF with
      | zero => intro y R2 V2 B2 x2 hm; exact absurd hm (Nat.not_lt_zero _)
      | succ nF ih33 =>
        intro y R2 V2 B2 x2 hm hy hR2 h2 hB2 hC H locs jP jD jS ls jl
        have hcl := cum_lo hpr (b := y) hy
        have hcu := cum_mono hpr (a := y) (b := 256) hy (by omega)
        refine lv_iload_n jx jb d_Mod_describe_33 rfl (lv_at jl 1 rfl) ?_
        refine z_if_le (tgt := 150) jx jb d_Mod_describe_34 (by decide) ⟨by omega, by omega⟩ (fun hc34 => ?_) (fun hc34 => ?_)
        ·
          refine lv_aload_n jx jb d_Mod_describe_150 rfl (lv_at jl 0 rfl) ?_
          refine z_backie (wr := [(rp, .inl (cI, 256, .inl (zA xp))), (ro, .inl (cI, 6000, .inl (zA x2)))]) jP jD jS jA [0] [1, 2] rfl rfl (by decide) (by decide) (va_runV (As := []) (rest := []) ⟨jx, jb, jml, jown, jts⟩ (c_M_endOut l D cI cB cZ H.size r ri ro rc rp rs rd rk rh iL go oL o (B2 : Int) bR (by have := h2.2.1; omega)) (zc_V 0 jts cd_Mod_endOut lk_Mod_93 im_Mod_endOut se_Mod_endOut in_Mod hd_Mod_endOut ⟨Nat.le_of_ble_eq_true rfl, Nat.le_of_ble_eq_true rfl⟩ rfl rfl) (z_preV jK jP jD [0] (by decide) rfl rfl rfl rfl) rfl rfl jl.1 rfl (lv_room (Nat.le_of_ble_eq_true rfl)) d_Mod_describe_151 ⟨Nat.le_of_ble_eq_true rfl, Nat.le_of_ble_eq_true rfl⟩) (fun u151 H locs jP jD jS => ?_)
          have jP : va_P D classes [(r, .inr (4, [.ref ri, .int (iZ iL), .int (iZ go), .ref ro, .int (iZ (((B2 : Int) + 7) / 8)), .ref rc, .int (iZ (o : Int)), .ref rp, .ref rs, .ref rd, .ref rk, .ref rh, .int (iZ (B2 : Int)), .int (iZ bR)])), (rp, .inl (cI, 256, .inl (zA xp))), (ro, .inl (cI, 6000, .inl (zA x2)))] H := jP.sub [2, 0, 1] rfl
          have jD : va_D A [(r, .inr (4, [.ref ri, .int (iZ iL), .int (iZ go), .ref ro, .int (iZ (((B2 : Int) + 7) / 8)), .ref rc, .int (iZ (o : Int)), .ref rp, .ref rs, .ref rd, .ref rk, .ref rh, .int (iZ (B2 : Int)), .int (iZ bR)])), (rp, .inl (cI, 256, .inl (zA xp))), (ro, .inl (cI, 6000, .inl (zA x2)))] := jD.sub [2, 0, 1] (by decide) rfl
          have hdc := shR_e hC (by omega)
          exact jret _ _ _ ((((B2 : Int) + 7) / 8), (B2 : Int), x2) _ _ (Or.inl rfl) (Or.inr ⟨rfl, by omega, by rw [hdc]; omega, by rw [hdc]; exact h2⟩) (jP.sub [0, 1, 2] rfl) (jD.sub [0, 1, 2] (by decide) rfl) jS d_Mod_describe_154
        ·
          refine lv_iload_n jx jb d_Mod_describe_37 rfl (lv_at jl 2 rfl) ?_
          refine lv_sipush (v := iZ 256) jx jb d_Mod_describe_38 (by decide) ?_
          refine z_icmp_ge (tgt := 150) jx jb d_Mod_describe_41 (by decide) ⟨⟨by omega, by omega⟩, ⟨by decide, by decide⟩⟩ (fun hc41 => ?_) (fun hc41 => ?_)
          ·
            refine lv_aload_n jx jb d_Mod_describe_150 rfl (lv_at jl 0 rfl) ?_
            refine z_backie (wr := [(rp, .inl (cI, 256, .inl (zA xp))), (ro, .inl (cI, 6000, .inl (zA x2)))]) jP jD jS jA [0] [1, 2] rfl rfl (by decide) (by decide) (va_runV (As := []) (rest := []) ⟨jx, jb, jml, jown, jts⟩ (c_M_endOut l D cI cB cZ H.size r ri ro rc rp rs rd rk rh iL go oL o (B2 : Int) bR (by have := h2.2.1; omega)) (zc_V 0 jts cd_Mod_endOut lk_Mod_93 im_Mod_endOut se_Mod_endOut in_Mod hd_Mod_endOut ⟨Nat.le_of_ble_eq_true rfl, Nat.le_of_ble_eq_true rfl⟩ rfl rfl) (z_preV jK jP jD [0] (by decide) rfl rfl rfl rfl) rfl rfl jl.1 rfl (lv_room (Nat.le_of_ble_eq_true rfl)) d_Mod_describe_151 ⟨Nat.le_of_ble_eq_true rfl, Nat.le_of_ble_eq_true rfl⟩) (fun u151 H locs jP jD jS => ?_)
            have jP : va_P D classes [(r, .inr (4, [.ref ri, .int (iZ iL), .int (iZ go), .ref ro, .int (iZ (((B2 : Int) + 7) / 8)), .ref rc, .int (iZ (o : Int)), .ref rp, .ref rs, .ref rd, .ref rk, .ref rh, .int (iZ (B2 : Int)), .int (iZ bR)])), (rp, .inl (cI, 256, .inl (zA xp))), (ro, .inl (cI, 6000, .inl (zA x2)))] H := jP.sub [2, 0, 1] rfl
            have jD : va_D A [(r, .inr (4, [.ref ri, .int (iZ iL), .int (iZ go), .ref ro, .int (iZ (((B2 : Int) + 7) / 8)), .ref rc, .int (iZ (o : Int)), .ref rp, .ref rs, .ref rd, .ref rk, .ref rh, .int (iZ (B2 : Int)), .int (iZ bR)])), (rp, .inl (cI, 256, .inl (zA xp))), (ro, .inl (cI, 6000, .inl (zA x2)))] := jD.sub [2, 0, 1] (by decide) rfl
            have hdc := shR_e hC (by omega)
            exact jret _ _ _ ((((B2 : Int) + 7) / 8), (B2 : Int), x2) _ _ (Or.inl rfl) (Or.inr ⟨rfl, by omega, by rw [hdc]; omega, by rw [hdc]; exact h2⟩) (jP.sub [0, 1, 2] rfl) (jD.sub [0, 1, 2] (by decide) rfl) jS d_Mod_describe_154
          ·
            have hpy := hpr y (by omega)
            have hfit := cum_fit hpr (y := y) (by omega)
            have hwp := wgt_pt hpy.1 (show wgt (xp y) ≤ R2 by omega) (by omega)
            have hnn := numN_le (R := R2) (v := (xp y + 1).toNat) (by omega) (by omega)
            refine lv_aload_n jx jb d_Mod_describe_44 rfl (lv_at jl 0 rfl) ?_
            refine lv_aload_n jx jb d_Mod_describe_45 rfl (lv_at jl 0 rfl) ?_
            refine va_get (D := D) (ci := 4) (v := .ref rp) (C := R_Mod) (T := F_Mod) (N := 14) jx jb jts i_Mod jown jK.1 jP 0 rfl rfl 7 (by decide) (jts _ fl_Mod_19) (fun _ h9 => h9) rfl d_Mod_describe_46 ?_
            refine lv_iload_n jx jb d_Mod_describe_49 rfl (lv_at jl 2 rfl) ?_
            refine z_iald jx jb jK.1 jP 1 0 rfl rfl y (by omega) d_Mod_describe_50 ?_
            refine lv_iconst (v := iZ 1) jx jb d_Mod_describe_51 rfl ?_
            refine z_iadd jx jb d_Mod_describe_52 ?_
            refine z_top ((xp y + 1).toNat : Int) (by omega) ?_
            refine lv_iload_n jx jb d_Mod_describe_53 rfl (lv_at jl 1 rfl) ?_
            refine z_backv (wr := [(rp, .inl (cI, 256, .inl (zA xp)))]) jP jD jS jA [0, 2] [1] rfl rfl (by decide) (by decide) (va_runV (As := [.int (iZ ((xp y + 1).toNat : Int)), .int (iZ R2)]) (rest := []) ⟨jx, jb, jml, jown, jts⟩ (c_M_putNumber l D cI cB cZ H.size r ri ro rc rp rs rd rk rh iL go oL o bR x2 V2 B2 ((xp y + 1).toNat) R2 (h2) (by omega) (by omega) (by omega)) (zc_V 2 jts cd_Mod_putNumber lk_Mod_90 im_Mod_putNumber se_Mod_putNumber in_Mod hd_Mod_putNumber ⟨Nat.le_of_ble_eq_true rfl, Nat.le_of_ble_eq_true rfl⟩ rfl rfl) (z_preV jK jP jD [0, 2] (by decide) rfl rfl rfl rfl) rfl rfl jl.1 rfl (lv_room (Nat.le_of_ble_eq_true rfl)) d_Mod_describe_54 ⟨Nat.le_of_ble_eq_true rfl, Nat.le_of_ble_eq_true rfl⟩) (fun u54 H locs hu54 jP jD jS => ?_)
            obtain ⟨xo1_54, rfl⟩ : ∃ z, z = u54 := ⟨_, rfl⟩
            have jP : va_P D classes [(r, .inr (4, [.ref ri, .int (iZ iL), .int (iZ go), .ref ro, .int (iZ oL), .ref rc, .int (iZ (o : Int)), .ref rp, .ref rs, .ref rd, .ref rk, .ref rh, .int (iZ ((B2 + numN R2 ((xp y + 1).toNat) : Nat) : Int)), .int (iZ bR)])), (rp, .inl (cI, 256, .inl (zA xp))), (ro, .inl (cI, 6000, .inl (zA xo1_54)))] H := jP.sub [1, 0, 2] rfl
            have jD : va_D A [(r, .inr (4, [.ref ri, .int (iZ iL), .int (iZ go), .ref ro, .int (iZ oL), .ref rc, .int (iZ (o : Int)), .ref rp, .ref rs, .ref rd, .ref rk, .ref rh, .int (iZ ((B2 + numN R2 ((xp y + 1).toNat) : Nat) : Int)), .int (iZ bR)])), (rp, .inl (cI, 256, .inl (zA xp))), (ro, .inl (cI, 6000, .inl (zA xo1_54)))] := jD.sub [1, 0, 2] (by decide) rfl
            refine lv_iload_n jx jb d_Mod_describe_57 rfl (lv_at jl 1 rfl) ?_
            refine lv_aload_n jx jb d_Mod_describe_58 rfl (lv_at jl 0 rfl) ?_
            refine va_get (D := D) (ci := 4) (v := .ref rp) (C := R_Mod) (T := F_Mod) (N := 14) jx jb jts i_Mod jown jK.1 jP 0 rfl rfl 7 (by decide) (jts _ fl_Mod_19) (fun _ h9 => h9) rfl d_Mod_describe_59 ?_
            refine lv_iload_n jx jb d_Mod_describe_62 rfl (lv_at jl 2 rfl) ?_
            refine z_iald jx jb jK.1 jP 1 0 rfl rfl y (by omega) d_Mod_describe_63 ?_
            refine z_backe (va_runS (As := [.int (iZ (xp y))]) (rest := [.int (iZ R2)]) ⟨jx, jb, jml, jown, jts⟩ (c_M_weight l D cI cB cZ (xp y) (by first | assumption | omega)) (zc_S 1 jts cd_Mod_weight lk_Mod_46 st_Mod_weight in_Mod hd_Mod_weight ⟨Nat.le_of_ble_eq_true rfl, Nat.le_of_ble_eq_true rfl⟩ rfl rfl) (z_preSR jK jP [] rfl) rfl rfl jl.1 rfl (lv_room (Nat.le_of_ble_eq_true rfl)) d_Mod_describe_64 ⟨Nat.le_of_ble_eq_true rfl, Nat.le_of_ble_eq_true rfl⟩) ?_
            refine z_isub jx jb d_Mod_describe_67 ?_
            refine lv_istore_n (lv' := [(1, .int (iZ (R2 - (wgt (xp y))))), (0, .ref r), (2, .int (iZ (y : Int)))]) jx jb d_Mod_describe_68 rfl jl (by decide) rfl (fun ls jl => ?_)
            refine lv_iconst (v := iZ 0) jx jb d_Mod_describe_69 rfl ?_
            refine lv_istore_n (lv' := [(3, .int (iZ 0)), (1, .int (iZ (R2 - (wgt (xp y))))), (0, .ref r), (2, .int (iZ (y : Int)))]) jx jb d_Mod_describe_70 rfl jl (by decide) rfl (fun ls jl => ?_)
            refine lv_aload_n jx jb d_Mod_describe_71 rfl (lv_at jl 2 rfl) ?_
            refine va_get (D := D) (ci := 4) (v := .ref rp) (C := R_Mod) (T := F_Mod) (N := 14) jx jb jts i_Mod jown jK.1 jP 0 rfl rfl 7 (by decide) (jts _ fl_Mod_19) (fun _ h9 => h9) rfl d_Mod_describe_72 ?_
            refine lv_iload_n jx jb d_Mod_describe_75 rfl (lv_at jl 3 rfl) ?_
            refine z_iald jx jb jK.1 jP 1 0 rfl rfl y (by omega) d_Mod_describe_76 ?_
            refine z_if_ne (tgt := 141) jx jb d_Mod_describe_77 (by decide) ⟨by omega, by omega⟩ (fun hc77 => ?_) (fun hc77 => ?_)
            ·
              refine lv_iload_n jx jb d_Mod_describe_141 rfl (lv_at jl 3 rfl) ?_
              refine lv_iconst (v := iZ 1) jx jb d_Mod_describe_142 rfl ?_
              refine lv_iload_n jx jb d_Mod_describe_143 rfl (lv_at jl 0 rfl) ?_
              refine z_iadd jx jb d_Mod_describe_144 ?_
              refine z_iadd jx jb d_Mod_describe_145 ?_
              refine z_top ((y + 1 : Nat) : Int) (by omega) ?_
              refine lv_istore_n (lv' := [(2, .int (iZ ((y + 1 : Nat) : Int))), (3, .int (iZ 0)), (1, .int (iZ (R2 - (wgt (xp y))))), (0, .ref r)]) jx jb d_Mod_describe_146 rfl jl (by decide) rfl (fun ls jl => ?_)
              refine lv_goto (tgt := 33) jx jb d_Mod_describe_147 (by decide) ?_
              exact ih33 (y + 1 : Nat) (R2 - (wgt (xp y))) (V2 + numX R2 (xp y + 1).toNat * 2 ^ B2) (B2 + numN R2 (xp y + 1).toNat) xo1_54 (by omega) (by omega) (R_n hR2) (hu54) (by omega) (shR_n hC (by omega) hc77) _ _ (jP.sub [0, 1, 2] rfl) (jD.sub [0, 1, 2] (by decide) rfl) jS _ (lv_sub jl [3, 2, 0] rfl)
            ·
              have hjoin110 : ∀ (cz : Nat), (y + 1 ≤ y + 1 + cz ∧ y + 1 + cz ≤ 256 ∧ (∀ k, y + 1 ≤ k → k < y + 1 + cz → xp k = 0) ∧ (y + 1 + cz = 256 ∨ xp (y + 1 + cz) ≠ 0)) → ∀ (H : Heap) (locs : List Loc), va_P D classes [(r, .inr (4, [.ref ri, .int (iZ iL), .int (iZ go), .ref ro, .int (iZ oL), .ref rc, .int (iZ (o : Int)), .ref rp, .ref rs, .ref rd, .ref rk, .ref rh, .int (iZ ((B2 + numN R2 (xp y + 1).toNat : Nat) : Int)), .int (iZ bR)])), (rp, .inl (cI, 256, .inl (zA xp))), (ro, .inl (cI, 6000, .inl (zA xo1_54)))] H → va_D A [(r, .inr (4, [.ref ri, .int (iZ iL), .int (iZ go), .ref ro, .int (iZ oL), .ref rc, .int (iZ (o : Int)), .ref rp, .ref rs, .ref rd, .ref rk, .ref rh, .int (iZ ((B2 + numN R2 (xp y + 1).toNat : Nat) : Int)), .int (iZ bR)])), (rp, .inl (cI, 256, .inl (zA xp))), (ro, .inl (cI, 6000, .inl (zA xo1_54)))] → va_S A s.heap H locs → ∀ ls : Array Slot, lv_has ls 5 [(0, .ref r), (1, .int (iZ (R2 - wgt (xp y)))), (2, .int (iZ (y : Int))), (3, .int (iZ (cz : Int)))] → W p l e rm_M_describe s m args below meth c H locs 0 0 Q (F0 m 110 ls []) := by
                intro cz hbz H locs jP jD jS ls jl
                refine lv_iconst (v := iZ 0) jx jb d_Mod_describe_110 rfl ?_
                refine lv_istore (lv' := [(4, .int (iZ 0)), (0, .ref r), (1, .int (iZ (R2 - wgt (xp y)))), (2, .int (iZ (y : Int))), (3, .int (iZ (cz : Int)))]) jx jb d_Mod_describe_111 jl (by decide) rfl (fun ls jl => ?_)
                have hloop113 : ∀ (nF : Nat) (i : Nat) (x3 : Nat → Int), cz / 3 - i < nF → (i ≤ cz / 3) → (mO ((V2 + numX R2 (xp y + 1).toNat * 2 ^ B2) + (4 ^ i - 1) * 2 ^ (B2 + numN R2 (xp y + 1).toNat)) ((B2 + numN R2 (xp y + 1).toNat) + 2 * i) x3) → ∀ (H : Heap) (locs : List Loc), va_P D classes [(r, .inr (4, [.ref ri, .int (iZ iL), .int (iZ go), .ref ro, .int (iZ oL), .ref rc, .int (iZ (o : Int)), .ref rp, .ref rs, .ref rd, .ref rk, .ref rh, .int (iZ ((B2 + numN R2 (xp y + 1).toNat + 2 * i : Nat) : Int)), .int (iZ bR)])), (rp, .inl (cI, 256, .inl (zA xp))), (ro, .inl (cI, 6000, .inl (zA x3)))] H → va_D A [(r, .inr (4, [.ref ri, .int (iZ iL), .int (iZ go), .ref ro, .int (iZ oL), .ref rc, .int (iZ (o : Int)), .ref rp, .ref rs, .ref rd, .ref rk, .ref rh, .int (iZ ((B2 + numN R2 (xp y + 1).toNat + 2 * i : Nat) : Int)), .int (iZ bR)])), (rp, .inl (cI, 256, .inl (zA xp))), (ro, .inl (cI, 6000, .inl (zA x3)))] → va_S A s.heap H locs → ∀ ls : Array Slot, lv_has ls 5 [(0, .ref r), (1, .int (iZ (R2 - wgt (xp y)))), (2, .int (iZ (y : Int))), (3, .int (iZ (cz : Int))), (4, .int (iZ (i : Int)))] → W p l e rm_M_describe s m args below meth c H locs 0 0 Q (F0 m 113 ls []) := by
                  intro nF
                  induction nF with
                  | zero => intro i x3 hm; exact absurd hm (Nat.not_lt_zero _)
                  | succ nF ih113 =>
                    intro i x3 hm hi h3 H locs jP jD jS ls jl
                    refine lv_iload jx jb d_Mod_describe_113 (lv_at jl 4 rfl) ?_
                    refine lv_iload_n jx jb d_Mod_describe_115 rfl (lv_at jl 3 rfl) ?_
                    refine lv_iconst (v := iZ 3) jx jb d_Mod_describe_116 rfl ?_
                    refine z_idiv jx jb d_Mod_describe_117 (by omega) ?_
                    refine z_icmp_ge (tgt := 133) jx jb d_Mod_describe_118 (by decide) ⟨⟨by omega, by omega⟩, ⟨by omega, by omega⟩⟩ (fun hc118 => ?_) (fun hc118 => ?_)
                    ·
                      refine lv_aload_n jx jb d_Mod_describe_133 rfl (lv_at jl 0 rfl) ?_
                      refine lv_iload_n jx jb d_Mod_describe_134 rfl (lv_at jl 3 rfl) ?_
                      refine lv_iconst (v := iZ 3) jx jb d_Mod_describe_135 rfl ?_
                      refine z_irem jx jb d_Mod_describe_136 (by omega) ?_
                      refine z_top ((cz % 3 : Nat) : Int) (by omega) ?_
                      refine lv_iconst (v := iZ 2) jx jb d_Mod_describe_137 rfl ?_
                      refine z_backv (wr := [(rp, .inl (cI, 256, .inl (zA xp)))]) jP jD jS jA [0, 2] [1] rfl rfl (by decide) (by decide) (va_runV (As := [.int (iZ ((cz % 3 : Nat) : Int)), .int (iZ 2)]) (rest := []) ⟨jx, jb, jml, jown, jts⟩ (c_M_put l D cI cB cZ H.size r ri ro rc rp rs rd rk rh iL go oL o bR x3 ((V2 + numX R2 (xp y + 1).toNat * 2 ^ B2) + (4 ^ i - 1) * 2 ^ (B2 + numN R2 (xp y + 1).toNat)) (B2 + numN R2 (xp y + 1).toNat + 2 * i : Nat) (cz % 3 : Nat) 2 (h3) (by omega) (by decide) (by omega)) (zc_V 2 jts cd_Mod_put lk_Mod_83 im_Mod_put se_Mod_put in_Mod hd_Mod_put ⟨Nat.le_of_ble_eq_true rfl, Nat.le_of_ble_eq_true rfl⟩ rfl rfl) (z_preV jK jP jD [0, 2] (by decide) rfl rfl rfl rfl) rfl rfl jl.1 rfl (lv_room (Nat.le_of_ble_eq_true rfl)) d_Mod_describe_138 ⟨Nat.le_of_ble_eq_true rfl, Nat.le_of_ble_eq_true rfl⟩) (fun u138 H locs hu138 jP jD jS => ?_)
                      obtain ⟨xo1_138, rfl⟩ : ∃ z, z = u138 := ⟨_, rfl⟩
                      have jP : va_P D classes [(r, .inr (4, [.ref ri, .int (iZ iL), .int (iZ go), .ref ro, .int (iZ oL), .ref rc, .int (iZ (o : Int)), .ref rp, .ref rs, .ref rd, .ref rk, .ref rh, .int (iZ (((B2 + numN R2 (xp y + 1).toNat + 2 * i : Nat) + 2 : Nat) : Int)), .int (iZ bR)])), (rp, .inl (cI, 256, .inl (zA xp))), (ro, .inl (cI, 6000, .inl (zA xo1_138)))] H := jP.sub [1, 0, 2] rfl
                      have jD : va_D A [(r, .inr (4, [.ref ri, .int (iZ iL), .int (iZ go), .ref ro, .int (iZ oL), .ref rc, .int (iZ (o : Int)), .ref rp, .ref rs, .ref rd, .ref rk, .ref rh, .int (iZ (((B2 + numN R2 (xp y + 1).toNat + 2 * i : Nat) + 2 : Nat) : Int)), .int (iZ bR)])), (rp, .inl (cI, 256, .inl (zA xp))), (ro, .inl (cI, 6000, .inl (zA xo1_138)))] := jD.sub [1, 0, 2] (by decide) rfl
                      have hi3 : i = cz / 3 := by omega
                      rw [show (B2 + numN R2 (xp y + 1).toNat) + 2 * i + 2 = (B2 + numN R2 (xp y + 1).toNat) + zN (y + 1 + cz - (y + 1)) from by unfold zN; omega] at jP jD
                      refine lv_iload_n jx jb d_Mod_describe_141 rfl (lv_at jl 2 rfl) ?_
                      refine lv_iconst (v := iZ 1) jx jb d_Mod_describe_142 rfl ?_
                      refine lv_iload_n jx jb d_Mod_describe_143 rfl (lv_at jl 3 rfl) ?_
                      refine z_iadd jx jb d_Mod_describe_144 ?_
                      refine z_iadd jx jb d_Mod_describe_145 ?_
                      refine z_top ((y + 1 + cz : Nat) : Int) (by omega) ?_
                      refine lv_istore_n (lv' := [(2, .int (iZ ((y + 1 + cz : Nat) : Int))), (0, .ref r), (1, .int (iZ (R2 - wgt (xp y)))), (3, .int (iZ (cz : Int))), (4, .int (iZ (i : Int)))]) jx jb d_Mod_describe_146 rfl jl (by decide) rfl (fun ls jl => ?_)
                      refine lv_goto (tgt := 33) jx jb d_Mod_describe_147 (by decide) ?_
                      exact ih33 (y + 1 + cz) (R2 - wgt (xp y)) ((V2 + numX R2 (xp y + 1).toNat * 2 ^ B2) + zX (y + 1 + cz - (y + 1)) * 2 ^ (B2 + numN R2 (xp y + 1).toNat)) ((B2 + numN R2 (xp y + 1).toNat) + zN (y + 1 + cz - (y + 1))) xo1_138 (by omega) (hbz.2.1) (R_z hR2 hbz) (by rw [show y + 1 + cz - (y + 1) = cz by omega]; exact mO_ze (by omega) hu138) (by have q : zN (y + 1 + cz - (y + 1)) = 2 * ((y + 1 + cz - (y + 1)) / 3 + 1) := rfl; omega) (shR_z hC (by omega) hc77 hbz) _ _ (jP.sub [0, 1, 2] rfl) (jD.sub [0, 1, 2] (by decide) rfl) jS _ (lv_sub jl [1, 2, 0] rfl)
                    ·
                      refine lv_aload_n jx jb d_Mod_describe_121 rfl (lv_at jl 0 rfl) ?_
                      refine lv_iconst (v := iZ 3) jx jb d_Mod_describe_122 rfl ?_
                      refine lv_iconst (v := iZ 2) jx jb d_Mod_describe_123 rfl ?_
                      refine z_backv (wr := [(rp, .inl (cI, 256, .inl (zA xp)))]) jP jD jS jA [0, 2] [1] rfl rfl (by decide) (by decide) (va_runV (As := [.int (iZ 3), .int (iZ 2)]) (rest := []) ⟨jx, jb, jml, jown, jts⟩ (c_M_put l D cI cB cZ H.size r ri ro rc rp rs rd rk rh iL go oL o bR x3 ((V2 + numX R2 (xp y + 1).toNat * 2 ^ B2) + (4 ^ i - 1) * 2 ^ (B2 + numN R2 (xp y + 1).toNat)) (B2 + numN R2 (xp y + 1).toNat + 2 * i : Nat) 3 2 (h3) (by decide) (by decide) (by omega)) (zc_V 2 jts cd_Mod_put lk_Mod_83 im_Mod_put se_Mod_put in_Mod hd_Mod_put ⟨Nat.le_of_ble_eq_true rfl, Nat.le_of_ble_eq_true rfl⟩ rfl rfl) (z_preV jK jP jD [0, 2] (by decide) rfl rfl rfl rfl) rfl rfl jl.1 rfl (lv_room (Nat.le_of_ble_eq_true rfl)) d_Mod_describe_124 ⟨Nat.le_of_ble_eq_true rfl, Nat.le_of_ble_eq_true rfl⟩) (fun u124 H locs hu124 jP jD jS => ?_)
                      obtain ⟨xo1_124, rfl⟩ : ∃ z, z = u124 := ⟨_, rfl⟩
                      have jP : va_P D classes [(r, .inr (4, [.ref ri, .int (iZ iL), .int (iZ go), .ref ro, .int (iZ oL), .ref rc, .int (iZ (o : Int)), .ref rp, .ref rs, .ref rd, .ref rk, .ref rh, .int (iZ (((B2 + numN R2 (xp y + 1).toNat + 2 * i : Nat) + 2 : Nat) : Int)), .int (iZ bR)])), (rp, .inl (cI, 256, .inl (zA xp))), (ro, .inl (cI, 6000, .inl (zA xo1_124)))] H := jP.sub [1, 0, 2] rfl
                      have jD : va_D A [(r, .inr (4, [.ref ri, .int (iZ iL), .int (iZ go), .ref ro, .int (iZ oL), .ref rc, .int (iZ (o : Int)), .ref rp, .ref rs, .ref rd, .ref rk, .ref rh, .int (iZ (((B2 + numN R2 (xp y + 1).toNat + 2 * i : Nat) + 2 : Nat) : Int)), .int (iZ bR)])), (rp, .inl (cI, 256, .inl (zA xp))), (ro, .inl (cI, 6000, .inl (zA xo1_124)))] := jD.sub [1, 0, 2] (by decide) rfl
                      refine lv_iinc (v := iZ ((i : Int) + 1)) (lv' := [(4, .int (iZ ((i : Int) + 1))), (0, .ref r), (1, .int (iZ (R2 - wgt (xp y)))), (2, .int (iZ (y : Int))), (3, .int (iZ (cz : Int)))]) jx jb d_Mod_describe_127 jl (k := 4) rfl (iZ_add _ _) (by decide) rfl (fun ls jl => ?_)
                      refine lv_goto (tgt := 113) jx jb d_Mod_describe_130 (by decide) ?_
                      exact ih113 (i + 1) xo1_124 (by omega) (by first | assumption | omega) (mO_z hu124) _ _ (jP.sub [0, 1, 2] rfl) (jD.sub [0, 1, 2] (by decide) rfl) jS _ (lv_sub jl [1, 2, 3, 4, 0] rfl)
                exact hloop113 ((cz / 3 - 0) + 1) 0 xo1_54 (Nat.lt_succ_self _) (by first | assumption | omega) (mO_z0 hu54) _ _ (jP.sub [0, 1, 2] rfl) (jD.sub [0, 1, 2] (by decide) rfl) jS _ (lv_sub jl [1, 2, 3, 4, 0] rfl)
              have hloop80 : ∀ (nF : Nat) (cz : Nat), 256 - cz < nF → (y + 1 + cz ≤ 256) → (∀ k, y + 1 ≤ k → k < y + 1 + cz → xp k = 0) → ∀ (H : Heap) (locs : List Loc), va_P D classes [(r, .inr (4, [.ref ri, .int (iZ iL), .int (iZ go), .ref ro, .int (iZ oL), .ref rc, .int (iZ (o : Int)), .ref rp, .ref rs, .ref rd, .ref rk, .ref rh, .int (iZ ((B2 + numN R2 (xp y + 1).toNat : Nat) : Int)), .int (iZ bR)])), (rp, .inl (cI, 256, .inl (zA xp))), (ro, .inl (cI, 6000, .inl (zA xo1_54)))] H → va_D A [(r, .inr (4, [.ref ri, .int (iZ iL), .int (iZ go), .ref ro, .int (iZ oL), .ref rc, .int (iZ (o : Int)), .ref rp, .ref rs, .ref rd, .ref rk, .ref rh, .int (iZ ((B2 + numN R2 (xp y + 1).toNat : Nat) : Int)), .int (iZ bR)])), (rp, .inl (cI, 256, .inl (zA xp))), (ro, .inl (cI, 6000, .inl (zA xo1_54)))] → va_S A s.heap H locs → ∀ ls : Array Slot, lv_has ls 5 [(0, .ref r), (1, .int (iZ (R2 - wgt (xp y)))), (2, .int (iZ (y : Int))), (3, .int (iZ (cz : Int)))] → W p l e rm_M_describe s m args below meth c H locs 0 0 Q (F0 m 80 ls []) := by
                intro nF
                induction nF with
                | zero => intro cz hm; exact absurd hm (Nat.not_lt_zero _)
                | succ nF ih80 =>
                  intro cz hm hcz hz0 H locs jP jD jS ls jl
                  refine lv_iload_n jx jb d_Mod_describe_80 rfl (lv_at jl 2 rfl) ?_
                  refine lv_iconst (v := iZ 1) jx jb d_Mod_describe_81 rfl ?_
                  refine z_iadd jx jb d_Mod_describe_82 ?_
                  refine z_top ((y + 1 : Nat) : Int) (by omega) ?_
                  refine lv_iload_n jx jb d_Mod_describe_83 rfl (lv_at jl 3 rfl) ?_
                  refine z_iadd jx jb d_Mod_describe_84 ?_
                  refine z_top ((y + 1 + cz : Nat) : Int) (by omega) ?_
                  refine lv_sipush (v := iZ 256) jx jb d_Mod_describe_85 (by decide) ?_
                  refine z_icmp_ge (tgt := 110) jx jb d_Mod_describe_88 (by decide) ⟨⟨by omega, by omega⟩, ⟨by decide, by decide⟩⟩ (fun hc88 => ?_) (fun hc88 => ?_)
                  ·
                    exact hjoin110 cz (⟨by omega, hcz, hz0, by omega⟩) _ _ (jP.sub [0, 1, 2] rfl) (jD.sub [0, 1, 2] (by decide) rfl) jS _ (lv_sub jl [0, 1, 2, 3] rfl)
                  ·
                    refine lv_aload_n jx jb d_Mod_describe_91 rfl (lv_at jl 0 rfl) ?_
                    refine va_get (D := D) (ci := 4) (v := .ref rp) (C := R_Mod) (T := F_Mod) (N := 14) jx jb jts i_Mod jown jK.1 jP 0 rfl rfl 7 (by decide) (jts _ fl_Mod_19) (fun _ h9 => h9) rfl d_Mod_describe_92 ?_
                    refine lv_iload_n jx jb d_Mod_describe_95 rfl (lv_at jl 2 rfl) ?_
                    refine lv_iconst (v := iZ 1) jx jb d_Mod_describe_96 rfl ?_
                    refine z_iadd jx jb d_Mod_describe_97 ?_
                    refine z_top ((y + 1 : Nat) : Int) (by omega) ?_
                    refine lv_iload_n jx jb d_Mod_describe_98 rfl (lv_at jl 3 rfl) ?_
                    refine z_iadd jx jb d_Mod_describe_99 ?_
                    refine z_top ((y + 1 + cz : Nat) : Int) (by omega) ?_
                    refine z_iald jx jb jK.1 jP 1 0 rfl rfl (y + 1 + cz : Nat) (by omega) d_Mod_describe_100 ?_
                    have hpz := hpr (y + 1 + cz) (by omega)
                    refine z_if_ne (tgt := 110) jx jb d_Mod_describe_101 (by decide) ⟨by omega, by omega⟩ (fun hc101 => ?_) (fun hc101 => ?_)
                    ·
                      exact hjoin110 cz (⟨by omega, hcz, hz0, by omega⟩) _ _ (jP.sub [0, 1, 2] rfl) (jD.sub [0, 1, 2] (by decide) rfl) jS _ (lv_sub jl [0, 1, 2, 3] rfl)
                    ·
                      refine lv_iinc (v := iZ ((cz : Int) + 1)) (lv' := [(3, .int (iZ ((cz : Int) + 1))), (0, .ref r), (1, .int (iZ (R2 - wgt (xp y)))), (2, .int (iZ (y : Int)))]) jx jb d_Mod_describe_104 jl (k := 3) rfl (iZ_add _ _) (by decide) rfl (fun ls jl => ?_)
                      refine lv_goto (tgt := 80) jx jb d_Mod_describe_107 (by decide) ?_
                      exact ih80 (cz + 1) (by omega) (by first | assumption | omega) (zr_step hz0 hc101) _ _ (jP.sub [0, 1, 2] rfl) (jD.sub [0, 1, 2] (by decide) rfl) jS _ (lv_sub jl [1, 2, 3, 0] rfl)
              exact hloop80 ((256 - 0) + 1) 0 (Nat.lt_succ_self _) (by first | assumption | omega) (fun k q1 q2 => absurd q1 (by omega)) _ _ (jP.sub [0, 1, 2] rfl) (jD.sub [0, 1, 2] (by decide) rfl) jS _ (lv_sub jl [2, 1, 3, 0] rfl)
    exact hloop33 ((256 - 0) + 1) 0 (2 ^ o) (o - 5) 4 xo1_21 (Nat.lt_succ_self _) (by first | assumption | omega) ((Int.sub_zero _).symm) (mO_first hu21) (by first | assumption | omega) (dC_0) _ _ (jP.sub [0, 1, 2] rfl) (jD.sub [0, 1, 2] (by decide) rfl) jS _ (lv_sub jl [2, 1, 0] rfl)
  ·
    refine lv_iconst (v := iZ (-1)) jx jb d_Mod_describe_7 rfl ?_
    exact jret _ _ _ (oL, bP, xo) _ _ (Or.inl rfl) (Or.inl ⟨rfl, by omega, rfl, rfl⟩) (jP.sub [0, 1, 2] rfl) (jD.sub [0, 1, 2] (by decide) rfl) jS d_Mod_describe_8
