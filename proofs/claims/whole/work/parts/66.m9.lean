theorem cd_Mod_takeNumber : Cond.code y_Mod_takeNumber b_Mod_takeNumber 7 (some .int) ∈ zT := zT_of (List.mem_of_getElem? (i := 627) (by decide +kernel)) rfl
theorem hd_Mod_takeNumber : y_Mod_takeNumber.cls ≠ "java/lang/invoke/MethodHandle" ∧ y_Mod_takeNumber.cls ≠ "java/lang/invoke/VarHandle" ∧ (parseMethodDescriptor y_Mod_takeNumber.desc).map (fun d => d.parameters.length) = some 1 := by decide +kernel
theorem lk_Mod_102 : Cond.methodLink R_Mod 102 y_Mod_takeNumber ∈ zT := zT_of (List.mem_of_getElem? (i := 624) (by decide +kernel)) rfl
theorem im_Mod_takeNumber : Cond.instanceMethod y_Mod_takeNumber ∈ zT := zT_of (List.mem_of_getElem? (i := 626) (by decide +kernel)) rfl
theorem se_Mod_takeNumber : Cond.selects R_Mod y_Mod_takeNumber y_Mod_takeNumber ∈ zT := zT_of (List.mem_of_getElem? (i := 22) (by decide +kernel)) rfl
theorem cd_Mod_takeZeros : Cond.code y_Mod_takeZeros b_Mod_takeZeros 6 (some .int) ∈ zT := zT_of (List.mem_of_getElem? (i := 631) (by decide +kernel)) rfl
theorem hd_Mod_takeZeros : y_Mod_takeZeros.cls ≠ "java/lang/invoke/MethodHandle" ∧ y_Mod_takeZeros.cls ≠ "java/lang/invoke/VarHandle" ∧ (parseMethodDescriptor y_Mod_takeZeros.desc).map (fun d => d.parameters.length) = some 2 := by decide +kernel
theorem lk_Mod_105 : Cond.methodLink R_Mod 105 y_Mod_takeZeros ∈ zT := zT_of (List.mem_of_getElem? (i := 628) (by decide +kernel)) rfl
theorem im_Mod_takeZeros : Cond.instanceMethod y_Mod_takeZeros ∈ zT := zT_of (List.mem_of_getElem? (i := 630) (by decide +kernel)) rfl
theorem se_Mod_takeZeros : Cond.selects R_Mod y_Mod_takeZeros y_Mod_takeZeros ∈ zT := zT_of (List.mem_of_getElem? (i := 23) (by decide +kernel)) rfl
theorem d_Mod_read_0 : decode b_Mod_read 0 = .ok (.iload_n 1, 1) := by decide +kernel
theorem d_Mod_read_1 : decode b_Mod_read 1 = .ok (.invokestatic 60, 3) := by decide +kernel
theorem d_Mod_read_4 : decode b_Mod_read 4 = .ok (.ifCond .eq 14, 3) := by decide +kernel
theorem d_Mod_read_7 : decode b_Mod_read 7 = .ok (.iload_n 2, 1) := by decide +kernel
theorem d_Mod_read_8 : decode b_Mod_read 8 = .ok (.ifCond .lt 10, 3) := by decide +kernel
theorem d_Mod_read_11 : decode b_Mod_read 11 = .ok (.iload_n 2, 1) := by decide +kernel
theorem d_Mod_read_12 : decode b_Mod_read 12 = .ok (.sipush 255, 3) := by decide +kernel
theorem d_Mod_read_15 : decode b_Mod_read 15 = .ok (.if_icmp .le 6, 3) := by decide +kernel
theorem d_Mod_read_18 : decode b_Mod_read 18 = .ok (.bipush (-4), 2) := by decide +kernel
theorem d_Mod_read_20 : decode b_Mod_read 20 = .ok (.ireturn, 1) := by decide +kernel
theorem d_Mod_read_21 : decode b_Mod_read 21 = .ok (.aload_n 0, 1) := by decide +kernel
theorem d_Mod_read_22 : decode b_Mod_read 22 = .ok (.iconst 0, 1) := by decide +kernel
theorem d_Mod_read_23 : decode b_Mod_read 23 = .ok (.putfield 96, 3) := by decide +kernel
theorem d_Mod_read_26 : decode b_Mod_read 26 = .ok (.aload_n 0, 1) := by decide +kernel
theorem d_Mod_read_27 : decode b_Mod_read 27 = .ok (.iconst 4, 1) := by decide +kernel
theorem d_Mod_read_28 : decode b_Mod_read 28 = .ok (.invokevirtual 99, 3) := by decide +kernel
theorem d_Mod_read_31 : decode b_Mod_read 31 = .ok (.istore_n 3, 1) := by decide +kernel
theorem d_Mod_read_32 : decode b_Mod_read 32 = .ok (.iload_n 3, 1) := by decide +kernel
theorem d_Mod_read_33 : decode b_Mod_read 33 = .ok (.iconst (-1), 1) := by decide +kernel
theorem d_Mod_read_34 : decode b_Mod_read 34 = .ok (.if_icmp .ne 6, 3) := by decide +kernel
theorem d_Mod_read_37 : decode b_Mod_read 37 = .ok (.bipush (-3), 2) := by decide +kernel
theorem d_Mod_read_39 : decode b_Mod_read 39 = .ok (.ireturn, 1) := by decide +kernel
theorem d_Mod_read_40 : decode b_Mod_read 40 = .ok (.iinc 3 5, 3) := by decide +kernel
theorem d_Mod_read_43 : decode b_Mod_read 43 = .ok (.iload_n 3, 1) := by decide +kernel
theorem d_Mod_read_44 : decode b_Mod_read 44 = .ok (.iload_n 1, 1) := by decide +kernel
theorem d_Mod_read_45 : decode b_Mod_read 45 = .ok (.if_icmp .le 5, 3) := by decide +kernel
theorem d_Mod_read_48 : decode b_Mod_read 48 = .ok (.iconst (-1), 1) := by decide +kernel
theorem d_Mod_read_49 : decode b_Mod_read 49 = .ok (.ireturn, 1) := by decide +kernel
theorem d_Mod_read_50 : decode b_Mod_read 50 = .ok (.iconst 0, 1) := by decide +kernel
theorem d_Mod_read_51 : decode b_Mod_read 51 = .ok (.istore 4, 2) := by decide +kernel
theorem d_Mod_read_53 : decode b_Mod_read 53 = .ok (.iload 4, 2) := by decide +kernel
theorem d_Mod_read_55 : decode b_Mod_read 55 = .ok (.sipush 256, 3) := by decide +kernel
theorem d_Mod_read_58 : decode b_Mod_read 58 = .ok (.if_icmp .ge 17, 3) := by decide +kernel
theorem d_Mod_read_61 : decode b_Mod_read 61 = .ok (.aload_n 0, 1) := by decide +kernel
theorem d_Mod_read_62 : decode b_Mod_read 62 = .ok (.getfield 25, 3) := by decide +kernel
theorem d_Mod_read_65 : decode b_Mod_read 65 = .ok (.iload 4, 2) := by decide +kernel
theorem d_Mod_read_67 : decode b_Mod_read 67 = .ok (.iconst 0, 1) := by decide +kernel
theorem d_Mod_read_68 : decode b_Mod_read 68 = .ok (.iastore, 1) := by decide +kernel
theorem d_Mod_read_69 : decode b_Mod_read 69 = .ok (.iinc 4 1, 3) := by decide +kernel
theorem d_Mod_read_72 : decode b_Mod_read 72 = .ok (.goto (-19), 3) := by decide +kernel
theorem d_Mod_read_75 : decode b_Mod_read 75 = .ok (.iconst 1, 1) := by decide +kernel
theorem d_Mod_read_76 : decode b_Mod_read 76 = .ok (.iload_n 3, 1) := by decide +kernel
theorem d_Mod_read_77 : decode b_Mod_read 77 = .ok (.ishl, 1) := by decide +kernel
theorem d_Mod_read_78 : decode b_Mod_read 78 = .ok (.istore 4, 2) := by decide +kernel
theorem d_Mod_read_80 : decode b_Mod_read 80 = .ok (.iconst 0, 1) := by decide +kernel
theorem d_Mod_read_81 : decode b_Mod_read 81 = .ok (.istore 5, 2) := by decide +kernel
theorem d_Mod_read_83 : decode b_Mod_read 83 = .ok (.iload 4, 2) := by decide +kernel
theorem d_Mod_read_85 : decode b_Mod_read 85 = .ok (.ifCond .le 89, 3) := by decide +kernel
theorem d_Mod_read_88 : decode b_Mod_read 88 = .ok (.aload_n 0, 1) := by decide +kernel
theorem d_Mod_read_89 : decode b_Mod_read 89 = .ok (.iload 4, 2) := by decide +kernel
theorem d_Mod_read_91 : decode b_Mod_read 91 = .ok (.invokevirtual 102, 3) := by decide +kernel
theorem d_Mod_read_94 : decode b_Mod_read 94 = .ok (.istore 6, 2) := by decide +kernel
theorem d_Mod_read_96 : decode b_Mod_read 96 = .ok (.iload 6, 2) := by decide +kernel
theorem d_Mod_read_98 : decode b_Mod_read 98 = .ok (.iconst (-1), 1) := by decide +kernel
theorem d_Mod_read_99 : decode b_Mod_read 99 = .ok (.if_icmp .ne 6, 3) := by decide +kernel
theorem d_Mod_read_102 : decode b_Mod_read 102 = .ok (.bipush (-3), 2) := by decide +kernel
theorem d_Mod_read_104 : decode b_Mod_read 104 = .ok (.ireturn, 1) := by decide +kernel
theorem d_Mod_read_105 : decode b_Mod_read 105 = .ok (.aload_n 0, 1) := by decide +kernel
theorem d_Mod_read_106 : decode b_Mod_read 106 = .ok (.getfield 25, 3) := by decide +kernel
theorem d_Mod_read_109 : decode b_Mod_read 109 = .ok (.iload 5, 2) := by decide +kernel
theorem d_Mod_read_111 : decode b_Mod_read 111 = .ok (.iload 6, 2) := by decide +kernel
theorem d_Mod_read_113 : decode b_Mod_read 113 = .ok (.iconst 1, 1) := by decide +kernel
theorem d_Mod_read_114 : decode b_Mod_read 114 = .ok (.isub, 1) := by decide +kernel
theorem d_Mod_read_115 : decode b_Mod_read 115 = .ok (.iastore, 1) := by decide +kernel
theorem d_Mod_read_116 : decode b_Mod_read 116 = .ok (.iload 4, 2) := by decide +kernel
theorem d_Mod_read_118 : decode b_Mod_read 118 = .ok (.aload_n 0, 1) := by decide +kernel
theorem d_Mod_read_119 : decode b_Mod_read 119 = .ok (.getfield 25, 3) := by decide +kernel
theorem d_Mod_read_122 : decode b_Mod_read 122 = .ok (.iload 5, 2) := by decide +kernel
theorem d_Mod_read_124 : decode b_Mod_read 124 = .ok (.iaload, 1) := by decide +kernel
theorem d_Mod_read_125 : decode b_Mod_read 125 = .ok (.invokestatic 46, 3) := by decide +kernel
theorem d_Mod_read_128 : decode b_Mod_read 128 = .ok (.isub, 1) := by decide +kernel
theorem d_Mod_read_129 : decode b_Mod_read 129 = .ok (.istore 4, 2) := by decide +kernel
theorem d_Mod_read_131 : decode b_Mod_read 131 = .ok (.iload 4, 2) := by decide +kernel
theorem d_Mod_read_133 : decode b_Mod_read 133 = .ok (.ifCond .le 12, 3) := by decide +kernel
theorem d_Mod_read_136 : decode b_Mod_read 136 = .ok (.iload 5, 2) := by decide +kernel
theorem d_Mod_read_138 : decode b_Mod_read 138 = .ok (.iload_n 2, 1) := by decide +kernel
theorem d_Mod_read_139 : decode b_Mod_read 139 = .ok (.if_icmp .ne 6, 3) := by decide +kernel
theorem d_Mod_read_142 : decode b_Mod_read 142 = .ok (.bipush (-2), 2) := by decide +kernel
theorem d_Mod_read_144 : decode b_Mod_read 144 = .ok (.ireturn, 1) := by decide +kernel
theorem d_Mod_read_145 : decode b_Mod_read 145 = .ok (.iload 6, 2) := by decide +kernel
theorem d_Mod_read_147 : decode b_Mod_read 147 = .ok (.iconst 1, 1) := by decide +kernel
theorem d_Mod_read_148 : decode b_Mod_read 148 = .ok (.if_icmp .ne 12, 3) := by decide +kernel
theorem d_Mod_read_151 : decode b_Mod_read 151 = .ok (.aload_n 0, 1) := by decide +kernel
theorem d_Mod_read_152 : decode b_Mod_read 152 = .ok (.iload 5, 2) := by decide +kernel
theorem d_Mod_read_154 : decode b_Mod_read 154 = .ok (.iload_n 2, 1) := by decide +kernel
theorem d_Mod_read_155 : decode b_Mod_read 155 = .ok (.invokevirtual 105, 3) := by decide +kernel
theorem d_Mod_read_158 : decode b_Mod_read 158 = .ok (.istore 5, 2) := by decide +kernel
theorem d_Mod_read_160 : decode b_Mod_read 160 = .ok (.iload 5, 2) := by decide +kernel
theorem d_Mod_read_162 : decode b_Mod_read 162 = .ok (.ifCond .ge 6, 3) := by decide +kernel
theorem d_Mod_read_165 : decode b_Mod_read 165 = .ok (.iload 5, 2) := by decide +kernel
theorem d_Mod_read_167 : decode b_Mod_read 167 = .ok (.ireturn, 1) := by decide +kernel
theorem d_Mod_read_168 : decode b_Mod_read 168 = .ok (.iinc 5 1, 3) := by decide +kernel
theorem d_Mod_read_171 : decode b_Mod_read 171 = .ok (.goto (-88), 3) := by decide +kernel
theorem d_Mod_read_174 : decode b_Mod_read 174 = .ok (.aload_n 0, 1) := by decide +kernel
theorem d_Mod_read_175 : decode b_Mod_read 175 = .ok (.dup, 1) := by decide +kernel
theorem d_Mod_read_176 : decode b_Mod_read 176 = .ok (.getfield 42, 3) := by decide +kernel
theorem d_Mod_read_179 : decode b_Mod_read 179 = .ok (.aload_n 0, 1) := by decide +kernel
theorem d_Mod_read_180 : decode b_Mod_read 180 = .ok (.getfield 96, 3) := by decide +kernel
theorem d_Mod_read_183 : decode b_Mod_read 183 = .ok (.bipush 7, 2) := by decide +kernel
theorem d_Mod_read_185 : decode b_Mod_read 185 = .ok (.iadd, 1) := by decide +kernel
theorem d_Mod_read_186 : decode b_Mod_read 186 = .ok (.bipush 8, 2) := by decide +kernel
theorem d_Mod_read_188 : decode b_Mod_read 188 = .ok (.idiv, 1) := by decide +kernel
theorem d_Mod_read_189 : decode b_Mod_read 189 = .ok (.iadd, 1) := by decide +kernel
theorem d_Mod_read_190 : decode b_Mod_read 190 = .ok (.putfield 42, 3) := by decide +kernel
theorem d_Mod_read_193 : decode b_Mod_read 193 = .ok (.aload_n 0, 1) := by decide +kernel
theorem d_Mod_read_194 : decode b_Mod_read 194 = .ok (.iload_n 3, 1) := by decide +kernel
theorem d_Mod_read_195 : decode b_Mod_read 195 = .ok (.invokevirtual 74, 3) := by decide +kernel
theorem d_Mod_read_198 : decode b_Mod_read 198 = .ok (.iload_n 3, 1) := by decide +kernel
theorem d_Mod_read_199 : decode b_Mod_read 199 = .ok (.ireturn, 1) := by decide +kernel
abbrev rm_M_read : Room := { frames := 2, cells := 0, slots := 0, locals := 50 }
set_option maxHeartbeats 4000000 in
set_option maxRecDepth 100000 in
theorem c_M_read (l : Launch) (D : va_G) (cI cB cZ : ClassId) (sz : Nat) (r : Nat) (ri : Nat) (ro : Nat) (rc : Nat) (rp : Nat) (rs : Nat) (rd : Nat) (rk : Nat) (rh : Nat) (iL : Int) (go : Int) (oL : Int) (o : Nat) (bP : Int) (bR : Int) (xi : Nat → Int) (xp : Nat → Int) (xs : Nat → Int) (xd : Nat → Int) (x : Int) (y : Int) (hiL : 0 ≤ iL ∧ iL ≤ 6000) (hgo : 0 ≤ go ∧ go ≤ iL) (hxi : ∀ k, k < 6000 → 0 ≤ xi k ∧ xi k < 256) (hx1 : -2147483648 ≤ x ∧ x < 2147483648) (hy1 : -2147483648 ≤ y ∧ y < 2147483648) : Met l y_Mod_read (.code y_Mod_read b_Mod_read 7 (some .int) :: zT) rm_M_read (zPc D classes (TY cI cB cZ) [(r, .inr (4, [.ref ri, .int (iZ iL), .int (iZ go), .ref ro, .int (iZ oL), .ref rc, .int (iZ (o : Int)), .ref rp, .ref rs, .ref rd, .ref rk, .ref rh, .int (iZ bP), .int (iZ bR)])), (ri, .inl (cI, 6000, .inl (zA xi))), (rp, .inl (cI, 256, .inl (zA xp))), (rs, .inl (cI, 4096, .inl (zA xs))), (rd, .inl (cI, 256, .inl (zA xd)))] sz [.ref r, .int (iZ x), .int (iZ y)]) (zFi (S := Int × Int × Int × (Nat → Int) × (Nat → Int) × (Nat → Int)) D classes (fun z u => (z = -4 ∧ ¬ ((5 ≤ x ∧ x ≤ 12) ∧ 0 ≤ y ∧ y < 256) ∧ u.1 = go ∧ u.2.1 = (o : Int) ∧ u.2.2.2.1 = xp ∧ u.2.2.2.2.1 = xs) ∨ (((5 ≤ x ∧ x ≤ 12) ∧ 0 ≤ y ∧ y < 256) ∧ rdQ xi (8 * go.toNat) (8 * (iL - go)) x y.toNat z ∧ u.1 = go ∧ u.2.1 = (o : Int) ∧ u.2.2.2.1 = xp ∧ u.2.2.2.2.1 = xs) ∨ (((5 ≤ x ∧ x ≤ 12) ∧ 0 ≤ y ∧ y < 256) ∧ rdG xi (8 * go.toNat) (8 * (iL - go)) x y.toNat z ∧ u.1 = go + (((rdT xi (8 * go.toNat) (8 * (iL - go)) y.toNat).2.1 : Int) + 7) / 8 ∧ u.2.1 = z ∧ (∀ k, k < 256 → u.2.2.2.1 k = (rdT xi (8 * go.toNat) (8 * (iL - go)) y.toNat).2.2 k) ∧ u.2.2.2.2.1 = tbT u.2.2.2.1 z.toNat xs)) (fun u => [(r, .inr (4, [.ref ri, .int (iZ iL), .int (iZ u.1), .ref ro, .int (iZ oL), .ref rc, .int (iZ u.2.1), .ref rp, .ref rs, .ref rd, .ref rk, .ref rh, .int (iZ bP), .int (iZ u.2.2.1)])), (ri, .inl (cI, 6000, .inl (zA xi))), (rp, .inl (cI, 256, .inl (zA u.2.2.2.1))), (rs, .inl (cI, 4096, .inl (zA u.2.2.2.2.1))), (rd, .inl (cI, 256, .inl (zA u.2.2.2.2.2)))]) (va_A [(r, .inr (4, [.ref ri, .int (iZ iL), .int (iZ go), .ref ro, .int (iZ oL), .ref rc, .int (iZ (o : Int)), .ref rp, .ref rs, .ref rd, .ref rk, .ref rh, .int (iZ bP), .int (iZ bR)])), (ri, .inl (cI, 6000, .inl (zA xi))), (rp, .inl (cI, 256, .inl (zA xp))), (rs, .inl (cI, 4096, .inl (zA xs))), (rd, .inl (cI, 256, .inl (zA xd)))] sz)) 0 0 (va_A [(r, .inr (4, [.ref ri, .int (iZ iL), .int (iZ go), .ref ro, .int (iZ oL), .ref rc, .int (iZ (o : Int)), .ref rp, .ref rs, .ref rd, .ref rk, .ref rh, .int (iZ bP), .int (iZ bR)])), (ri, .inl (cI, 6000, .inl (zA xi))), (rp, .inl (cI, 256, .inl (zA xp))), (rs, .inl (cI, 4096, .inl (zA xs))), (rd, .inl (cI, 256, .inl (zA xd)))] sz) := by
  refine z_ofi (by decide) (Nat.le_of_ble_eq_true rfl) (Or.inl rfl) ?_
  intro p e s m args below meth c A Q E jA jK jret H locs jP jD jS ls jl
  obtain ⟨jx, jb, jrt, jml, jown, jts, jlk⟩ := E
  have jown : s.vm.findClass R_Mod = some m.cls := jown
  have jl : lv_has ls 7 [(0, .ref r), (1, .int (iZ x)), (2, .int (iZ y))] := jl
  refine lv_iload_n jx jb d_Mod_read_0 rfl (lv_at jl 1 rfl) ?_
  refine z_backr (va_runS (As := [.int (iZ x)]) (rest := []) ⟨jx, jb, jml, jown, jts⟩ (c_M_isOrder l D cI cB cZ x (by first | assumption | omega)) (zc_S 1 jts cd_Mod_isOrder lk_Mod_60 st_Mod_isOrder in_Mod hd_Mod_isOrder ⟨Nat.le_of_ble_eq_true rfl, Nat.le_of_ble_eq_true rfl⟩ rfl rfl) (z_preSR jK jP [] rfl) rfl rfl jl.1 rfl (lv_room (Nat.le_of_ble_eq_true rfl)) d_Mod_read_1 ⟨Nat.le_of_ble_eq_true rfl, Nat.le_of_ble_eq_true rfl⟩) (fun z1 hz1 => ?_)
  rcases hz1 with ⟨rfl, hq1⟩ | ⟨rfl, hq1⟩
  ·
    refine z_if_eq (tgt := 18) jx jb d_Mod_read_4 (by decide) ⟨by decide, by decide⟩ (fun hc4 => ?_) (fun hc4 => ?_)
    ·
      exact absurd hc4 (by decide)
    ·
      refine lv_iload_n jx jb d_Mod_read_7 rfl (lv_at jl 2 rfl) ?_
      refine z_if_lt (tgt := 18) jx jb d_Mod_read_8 (by decide) ⟨by omega, by omega⟩ (fun hc8 => ?_) (fun hc8 => ?_)
      ·
        refine lv_bipush (v := iZ (-4)) jx jb d_Mod_read_18 (by decide) ?_
        exact jret _ _ _ (go, (o : Int), bR, xp, xs, xd) _ _ (Or.inl rfl) (Or.inl ⟨rfl, by omega, rfl, rfl, rfl, rfl⟩) (jP.sub [0, 1, 2, 3, 4] rfl) (jD.sub [0, 1, 2, 3, 4] (by decide) rfl) jS d_Mod_read_20
      ·
        refine lv_iload_n jx jb d_Mod_read_11 rfl (lv_at jl 2 rfl) ?_
        refine lv_sipush (v := iZ 255) jx jb d_Mod_read_12 (by decide) ?_
        refine z_icmp_le (tgt := 21) jx jb d_Mod_read_15 (by decide) ⟨⟨by omega, by omega⟩, ⟨by decide, by decide⟩⟩ (fun hc15 => ?_) (fun hc15 => ?_)
        ·
          refine lv_aload_n jx jb d_Mod_read_21 rfl (lv_at jl 0 rfl) ?_
          refine lv_iconst (v := iZ 0) jx jb d_Mod_read_22 rfl ?_
          refine va_put (D := D) (ci := 4) (v := .int (iZ 0)) (ty := .int) (C := R_Mod) (T := F_Mod) (N := 14) jx jb jts i_Mod t_Mod t_Mod_ok n_Mod jown jK.1 jP jD jS 0 rfl rfl 13 (by decide) (jts _ fl_Mod_96) (fun _ h9 => h9) rfl (by decide +kernel) rfl rfl (Nat.le_of_ble_eq_true rfl) d_Mod_read_23 (fun H locs jP jD jS => ?_)
          have jP : va_P D classes [(r, .inr (4, [.ref ri, .int (iZ iL), .int (iZ go), .ref ro, .int (iZ oL), .ref rc, .int (iZ (o : Int)), .ref rp, .ref rs, .ref rd, .ref rk, .ref rh, .int (iZ bP), .int (iZ 0)])), (ri, .inl (cI, 6000, .inl (zA xi))), (rp, .inl (cI, 256, .inl (zA xp))), (rs, .inl (cI, 4096, .inl (zA xs))), (rd, .inl (cI, 256, .inl (zA xd)))] H := jP
          have jD : va_D A [(r, .inr (4, [.ref ri, .int (iZ iL), .int (iZ go), .ref ro, .int (iZ oL), .ref rc, .int (iZ (o : Int)), .ref rp, .ref rs, .ref rd, .ref rk, .ref rh, .int (iZ bP), .int (iZ 0)])), (ri, .inl (cI, 6000, .inl (zA xi))), (rp, .inl (cI, 256, .inl (zA xp))), (rs, .inl (cI, 4096, .inl (zA xs))), (rd, .inl (cI, 256, .inl (zA xd)))] := jD
          refine lv_aload_n jx jb d_Mod_read_26 rfl (lv_at jl 0 rfl) ?_
          refine lv_iconst (v := iZ 4) jx jb d_Mod_read_27 rfl ?_
          refine z_backi (wr := [(rp, .inl (cI, 256, .inl (zA xp))), (rs, .inl (cI, 4096, .inl (zA xs))), (rd, .inl (cI, 256, .inl (zA xd)))]) jP jD jS jA [0, 1] [2, 3, 4] rfl rfl (by decide) (by decide) (va_runV (As := [.int (iZ 4)]) (rest := []) ⟨jx, jb, jml, jown, jts⟩ (c_M_take l D cI cB cZ H.size r ri ro rc rp rs rd rk rh iL go oL o bP xi 0 4 (by first | assumption | omega) (by first | assumption | omega) (by first | assumption | omega) (by decide) (by decide)) (zc_V 1 jts cd_Mod_take lk_Mod_99 im_Mod_take se_Mod_take in_Mod hd_Mod_take ⟨Nat.le_of_ble_eq_true rfl, Nat.le_of_ble_eq_true rfl⟩ rfl rfl) (z_preV jK jP jD [0, 1] (by decide) rfl rfl rfl rfl) rfl rfl jl.1 rfl (lv_room (Nat.le_of_ble_eq_true rfl)) d_Mod_read_28 ⟨Nat.le_of_ble_eq_true rfl, Nat.le_of_ble_eq_true rfl⟩) (fun z28 u28 H locs hz28 jP jD jS => ?_)
          obtain ⟨bR1_28, rfl⟩ : ∃ z, z = u28 := ⟨_, rfl⟩
          have jP : va_P D classes [(r, .inr (4, [.ref ri, .int (iZ iL), .int (iZ go), .ref ro, .int (iZ oL), .ref rc, .int (iZ (o : Int)), .ref rp, .ref rs, .ref rd, .ref rk, .ref rh, .int (iZ bP), .int (iZ bR1_28)])), (ri, .inl (cI, 6000, .inl (zA xi))), (rp, .inl (cI, 256, .inl (zA xp))), (rs, .inl (cI, 4096, .inl (zA xs))), (rd, .inl (cI, 256, .inl (zA xd)))] H := jP.sub [3, 4, 0, 1, 2] rfl
          have jD : va_D A [(r, .inr (4, [.ref ri, .int (iZ iL), .int (iZ go), .ref ro, .int (iZ oL), .ref rc, .int (iZ (o : Int)), .ref rp, .ref rs, .ref rd, .ref rk, .ref rh, .int (iZ bP), .int (iZ bR1_28)])), (ri, .inl (cI, 6000, .inl (zA xi))), (rp, .inl (cI, 256, .inl (zA xp))), (rs, .inl (cI, 4096, .inl (zA xs))), (rd, .inl (cI, 256, .inl (zA xd)))] := jD.sub [3, 4, 0, 1, 2] (by decide) rfl
          rcases hz28 with ⟨rfl, hq28, hb28⟩ | ⟨hv28, hq28, hb28⟩
          ·
            subst hb28
            refine lv_istore_n (lv' := [(3, .int (iZ (-1))), (0, .ref r), (1, .int (iZ x)), (2, .int (iZ y))]) jx jb d_Mod_read_31 rfl jl (by decide) rfl (fun ls jl => ?_)
            refine lv_iload_n jx jb d_Mod_read_32 rfl (lv_at jl 0 rfl) ?_
            refine lv_iconst (v := iZ (-1)) jx jb d_Mod_read_33 rfl ?_
            refine z_icmp_ne (tgt := 40) jx jb d_Mod_read_34 (by decide) ⟨⟨by decide, by decide⟩, ⟨by decide, by decide⟩⟩ (fun hc34 => ?_) (fun hc34 => ?_)
            ·
              exact absurd hc34 (by decide)
            ·
              refine lv_bipush (v := iZ (-3)) jx jb d_Mod_read_37 (by decide) ?_
              exact jret _ _ _ (go, (o : Int), ((0 : Nat) : Int), xp, xs, xd) _ _ (Or.inl rfl) (Or.inr (Or.inl ⟨by omega, Or.inl ⟨by omega, rfl⟩, rfl, rfl, rfl, rfl⟩)) (jP.sub [0, 1, 2, 3, 4] rfl) (jD.sub [0, 1, 2, 3, 4] (by decide) rfl) jS d_Mod_read_39
          ·
            obtain rfl : bR1_28 = ((4 : Nat) : Int) := by omega
            have hzv : z28 = nbI xi (8 * go.toNat) 4 := hv28
            have hnb4 := nbI_b xi (8 * go.toNat) 4
            refine lv_istore_n (lv' := [(3, .int (iZ z28)), (0, .ref r), (1, .int (iZ x)), (2, .int (iZ y))]) jx jb d_Mod_read_31 rfl jl (by decide) rfl (fun ls jl => ?_)
            refine lv_iload_n jx jb d_Mod_read_32 rfl (lv_at jl 0 rfl) ?_
            refine lv_iconst (v := iZ (-1)) jx jb d_Mod_read_33 rfl ?_
            refine z_icmp_ne (tgt := 40) jx jb d_Mod_read_34 (by decide) ⟨⟨by omega, by omega⟩, ⟨by decide, by decide⟩⟩ (fun hc34 => ?_) (fun hc34 => ?_)
            ·
              refine lv_iinc (v := iZ (z28 + 5)) (lv' := [(3, .int (iZ (z28 + 5))), (0, .ref r), (1, .int (iZ x)), (2, .int (iZ y))]) jx jb d_Mod_read_40 jl (k := 0) rfl (iZ_add _ _) (by decide) rfl (fun ls jl => ?_)
              refine lv_iload_n jx jb d_Mod_read_43 rfl (lv_at jl 0 rfl) ?_
              refine lv_iload_n jx jb d_Mod_read_44 rfl (lv_at jl 2 rfl) ?_
              refine z_icmp_le (tgt := 50) jx jb d_Mod_read_45 (by decide) ⟨⟨by omega, by omega⟩, ⟨by omega, by omega⟩⟩ (fun hc45 => ?_) (fun hc45 => ?_)
              ·
                refine lv_iconst (v := iZ 0) jx jb d_Mod_read_50 rfl ?_
                refine lv_istore (lv' := [(4, .int (iZ 0)), (3, .int (iZ (z28 + 5))), (0, .ref r), (1, .int (iZ x)), (2, .int (iZ y))]) jx jb d_Mod_read_51 jl (by decide) rfl (fun ls jl => ?_)
                have hloop53 : ∀ (nF : Nat) (i : Nat) (d2 : Nat → Int), 256 - i < nF → (i ≤ 256) → (∀ k, k < i → d2 k = 0) → ∀ (H : Heap) (locs : List Loc), va_P D classes [(r, .inr (4, [.ref ri, .int (iZ iL), .int (iZ go), .ref ro, .int (iZ oL), .ref rc, .int (iZ (o : Int)), .ref rp, .ref rs, .ref rd, .ref rk, .ref rh, .int (iZ bP), .int (iZ ((4 : Nat) : Int))])), (ri, .inl (cI, 6000, .inl (zA xi))), (rp, .inl (cI, 256, .inl (zA xp))), (rs, .inl (cI, 4096, .inl (zA xs))), (rd, .inl (cI, 256, .inl (zA d2)))] H → va_D A [(r, .inr (4, [.ref ri, .int (iZ iL), .int (iZ go), .ref ro, .int (iZ oL), .ref rc, .int (iZ (o : Int)), .ref rp, .ref rs, .ref rd, .ref rk, .ref rh, .int (iZ bP), .int (iZ ((4 : Nat) : Int))])), (ri, .inl (cI, 6000, .inl (zA xi))), (rp, .inl (cI, 256, .inl (zA xp))), (rs, .inl (cI, 4096, .inl (zA xs))), (rd, .inl (cI, 256, .inl (zA d2)))] → va_S A s.heap H locs → ∀ ls : Array Slot, lv_has ls 7 [(0, .ref r), (1, .int (iZ x)), (2, .int (iZ y)), (3, .int (iZ (z28 + 5))), (4, .int (iZ (i : Int)))] → W p l e rm_M_read s m args below meth c H locs 0 0 Q (F0 m 53 ls []) := by
                  intro nF
                  induction nF with
                  | zero => intro i d2 hm; exact absurd hm (Nat.not_lt_zero _)
                  | succ nF ih53 =>
                    intro i d2 hm hi hd2 H locs jP jD jS ls jl
                    refine lv_iload jx jb d_Mod_read_53 (lv_at jl 4 rfl) ?_
                    refine lv_sipush (v := iZ 256) jx jb d_Mod_read_55 (by decide) ?_
                    refine z_icmp_ge (tgt := 75) jx jb d_Mod_read_58 (by decide) ⟨⟨by omega, by omega⟩, ⟨by decide, by decide⟩⟩ (fun hc58 => ?_) (fun hc58 => ?_)
                    ·
                      refine lv_iconst (v := iZ 1) jx jb d_Mod_read_75 rfl ?_
                      refine lv_iload_n jx jb d_Mod_read_76 rfl (lv_at jl 3 rfl) ?_
                      have hp12 := p2_le (show (5 + nbI xi (8 * go.toNat) 4).toNat ≤ 12 by omega)
                      have hp0 := p2_pos (5 + nbI xi (8 * go.toNat) 4).toNat
                      refine z_ishl jx jb d_Mod_read_77 ((5 + nbI xi (8 * go.toNat) 4).toNat) (2 ^ ((5 + nbI xi (8 * go.toNat) 4).toNat)) (rfl) (by omega) ?_
                      refine z_top (2 ^ ((5 + nbI xi (8 * go.toNat) 4).toNat)) (Int.one_mul _) ?_
                      refine lv_istore (lv' := [(4, .int (iZ (2 ^ ((5 + nbI xi (8 * go.toNat) 4).toNat)))), (0, .ref r), (1, .int (iZ x)), (2, .int (iZ y)), (3, .int (iZ (z28 + 5)))]) jx jb d_Mod_read_78 jl (by decide) rfl (fun ls jl => ?_)
                      refine lv_iconst (v := iZ 0) jx jb d_Mod_read_80 rfl ?_
                      refine lv_istore (lv' := [(5, .int (iZ 0)), (4, .int (iZ (2 ^ ((5 + nbI xi (8 * go.toNat) 4).toNat)))), (0, .ref r), (1, .int (iZ x)), (2, .int (iZ y)), (3, .int (iZ (z28 + 5)))]) jx jb d_Mod_read_81 jl (by decide) rfl (fun ls jl => ?_)
                      have hloop83 : ∀ (nF : Nat) (s1 : Nat) (t : Nat) (R2 : Int) (pt : Nat → Int) (d3 : Nat → Int), 257 - s1 < nF → (s1 ≤ 256) → (0 ≤ R2 ∧ R2 ≤ 4096) → ((t : Int) ≤ (8 * (iL - go))) → ((R2 ≤ 0 ∧ (rdT xi (8 * go.toNat) (8 * (iL - go)) y.toNat) = (1, t, pt)) ∨ (1 ≤ R2 ∧ s1 ≤ y.toNat ∧ rdR xi (8 * go.toNat) (8 * (iL - go)) y.toNat (rdT xi (8 * go.toNat) (8 * (iL - go)) y.toNat) t s1 R2 pt)) → (∀ k, k < 256 → d3 k = pt k) → ∀ (H : Heap) (locs : List Loc), va_P D classes [(r, .inr (4, [.ref ri, .int (iZ iL), .int (iZ go), .ref ro, .int (iZ oL), .ref rc, .int (iZ (o : Int)), .ref rp, .ref rs, .ref rd, .ref rk, .ref rh, .int (iZ bP), .int (iZ (t : Int))])), (ri, .inl (cI, 6000, .inl (zA xi))), (rp, .inl (cI, 256, .inl (zA xp))), (rs, .inl (cI, 4096, .inl (zA xs))), (rd, .inl (cI, 256, .inl (zA d3)))] H → va_D A [(r, .inr (4, [.ref ri, .int (iZ iL), .int (iZ go), .ref ro, .int (iZ oL), .ref rc, .int (iZ (o : Int)), .ref rp, .ref rs, .ref rd, .ref rk, .ref rh, .int (iZ bP), .int (iZ (t : Int))])), (ri, .inl (cI, 6000, .inl (zA xi))), (rp, .inl (cI, 256, .inl (zA xp))), (rs, .inl (cI, 4096, .inl (zA xs))), (rd, .inl (cI, 256, .inl (zA d3)))] → va_S A s.heap H locs → ∀ ls : Array Slot, lv_has ls 7 [(0, .ref r), (1, .int (iZ x)), (2, .int (iZ y)), (3, .int (iZ (z28 + 5))), (4, .int (iZ R2)), (5, .int (iZ (s1 : Int)))] → W p l e rm_M_read s m args below meth c H locs 0 0 Q (F0 m 83 ls []) := by
                        intro nF
                        induction nF with
                        | zero => intro s1 t R2 pt d3 hm; exact absurd hm (Nat.not_lt_zero _)
                        | succ nF ih83 =>
                          intro s1 t R2 pt d3 hm hs1 hR2 ht hS hf H locs jP jD jS ls jl
                          refine lv_iload jx jb d_Mod_read_83 (lv_at jl 4 rfl) ?_
                          refine z_if_le (tgt := 174) jx jb d_Mod_read_85 (by decide) ⟨by omega, by omega⟩ (fun hc85 => ?_) (fun hc85 => ?_)
                          ·
                            obtain ⟨_, hTT⟩ := hS.resolve_right (fun q => absurd q.1 (by omega))
                            have htk := rdT_ok (b := xi) (q0 := (8 * go.toNat)) (A := (8 * (iL - go))) (show y.toNat ≤ 255 by omega) (by omega) (by rw [hTT])
                            rw [hTT] at htk
                            refine lv_aload_n jx jb d_Mod_read_174 rfl (lv_at jl 0 rfl) ?_
                            refine lv_dup jx jb d_Mod_read_175 rfl ?_
                            refine va_get (D := D) (ci := 4) (v := .int (iZ go)) (C := R_Mod) (T := F_Mod) (N := 14) jx jb jts i_Mod jown jK.1 jP 0 rfl rfl 2 (by decide) (jts _ fl_Mod_42) (fun _ h9 => h9) rfl d_Mod_read_176 ?_
                            refine lv_aload_n jx jb d_Mod_read_179 rfl (lv_at jl 0 rfl) ?_
                            refine va_get (D := D) (ci := 4) (v := .int (iZ (t : Int))) (C := R_Mod) (T := F_Mod) (N := 14) jx jb jts i_Mod jown jK.1 jP 0 rfl rfl 13 (by decide) (jts _ fl_Mod_96) (fun _ h9 => h9) rfl d_Mod_read_180 ?_
                            refine lv_bipush (v := iZ 7) jx jb d_Mod_read_183 (by decide) ?_
                            refine z_iadd jx jb d_Mod_read_185 ?_
                            refine lv_bipush (v := iZ 8) jx jb d_Mod_read_186 (by decide) ?_
                            refine z_idiv jx jb d_Mod_read_188 (by omega) ?_
                            refine z_iadd jx jb d_Mod_read_189 ?_
                            refine va_put (D := D) (ci := 4) (v := .int (iZ (go + (((t : Int) + 7) / 8)))) (ty := .int) (C := R_Mod) (T := F_Mod) (N := 14) jx jb jts i_Mod t_Mod t_Mod_ok n_Mod jown jK.1 jP jD jS 0 rfl rfl 2 (by decide) (jts _ fl_Mod_42) (fun _ h9 => h9) rfl (by decide +kernel) rfl rfl (Nat.le_of_ble_eq_true rfl) d_Mod_read_190 (fun H locs jP jD jS => ?_)
                            have jP : va_P D classes [(r, .inr (4, [.ref ri, .int (iZ iL), .int (iZ (go + (((t : Int) + 7) / 8))), .ref ro, .int (iZ oL), .ref rc, .int (iZ (o : Int)), .ref rp, .ref rs, .ref rd, .ref rk, .ref rh, .int (iZ bP), .int (iZ (t : Int))])), (ri, .inl (cI, 6000, .inl (zA xi))), (rp, .inl (cI, 256, .inl (zA xp))), (rs, .inl (cI, 4096, .inl (zA xs))), (rd, .inl (cI, 256, .inl (zA d3)))] H := jP
                            have jD : va_D A [(r, .inr (4, [.ref ri, .int (iZ iL), .int (iZ (go + (((t : Int) + 7) / 8))), .ref ro, .int (iZ oL), .ref rc, .int (iZ (o : Int)), .ref rp, .ref rs, .ref rd, .ref rk, .ref rh, .int (iZ bP), .int (iZ (t : Int))])), (ri, .inl (cI, 6000, .inl (zA xi))), (rp, .inl (cI, 256, .inl (zA xp))), (rs, .inl (cI, 4096, .inl (zA xs))), (rd, .inl (cI, 256, .inl (zA d3)))] := jD
                            refine lv_aload_n jx jb d_Mod_read_193 rfl (lv_at jl 0 rfl) ?_
                            refine lv_iload_n jx jb d_Mod_read_194 rfl (lv_at jl 3 rfl) ?_
                            refine z_top (((z28 + 5).toNat : Nat) : Int) (by omega) ?_
                            refine z_backv (wr := [(ri, .inl (cI, 6000, .inl (zA xi)))]) jP jD jS jA [0, 2, 3, 4] [1] rfl rfl (by decide) (by decide) (va_runV (As := [.int (iZ (((z28 + 5).toNat : Nat) : Int))]) (rest := []) ⟨jx, jb, jml, jown, jts⟩ (c_M_settle l D cI cB cZ H.size r ri ro rc rp rs rd rk rh iL (go + (((t : Int) + 7) / 8)) oL bP (t : Int) (o : Int) ((z28 + 5).toNat : Nat) xp xs d3 (by omega) (fun k hk => by rw [hf k hk]; exact htk.2 k) (by rw [cum_congr (fun k hk => hf k hk), show (z28 + 5).toNat = (5 + nbI xi (8 * go.toNat) 4).toNat by omega]; exact htk.1)) (zc_V 1 jts cd_Mod_settle lk_Mod_74 im_Mod_settle se_Mod_settle in_Mod hd_Mod_settle ⟨Nat.le_of_ble_eq_true rfl, Nat.le_of_ble_eq_true rfl⟩ rfl rfl) (z_preV jK jP jD [0, 2, 3, 4] (by decide) rfl rfl rfl rfl) rfl rfl jl.1 rfl (lv_room (Nat.le_of_ble_eq_true rfl)) d_Mod_read_195 ⟨Nat.le_of_ble_eq_true rfl, Nat.le_of_ble_eq_true rfl⟩) (fun u195 H locs hu195 jP jD jS => ?_)
                            obtain ⟨xp1_195, xs1_195⟩ := u195
                            have jP : va_P D classes [(r, .inr (4, [.ref ri, .int (iZ iL), .int (iZ (go + (((t : Int) + 7) / 8))), .ref ro, .int (iZ oL), .ref rc, .int (iZ (((z28 + 5).toNat : Nat) : Int)), .ref rp, .ref rs, .ref rd, .ref rk, .ref rh, .int (iZ bP), .int (iZ (t : Int))])), (ri, .inl (cI, 6000, .inl (zA xi))), (rp, .inl (cI, 256, .inl (zA xp1_195))), (rs, .inl (cI, 4096, .inl (zA xs1_195))), (rd, .inl (cI, 256, .inl (zA d3)))] H := jP.sub [1, 0, 2, 3, 4] rfl
                            have jD : va_D A [(r, .inr (4, [.ref ri, .int (iZ iL), .int (iZ (go + (((t : Int) + 7) / 8))), .ref ro, .int (iZ oL), .ref rc, .int (iZ (((z28 + 5).toNat : Nat) : Int)), .ref rp, .ref rs, .ref rd, .ref rk, .ref rh, .int (iZ bP), .int (iZ (t : Int))])), (ri, .inl (cI, 6000, .inl (zA xi))), (rp, .inl (cI, 256, .inl (zA xp1_195))), (rs, .inl (cI, 4096, .inl (zA xs1_195))), (rd, .inl (cI, 256, .inl (zA d3)))] := jD.sub [1, 0, 2, 3, 4] (by decide) rfl
                            obtain ⟨hu1, hu2⟩ := hu195
                            refine lv_iload_n jx jb d_Mod_read_198 rfl (lv_at jl 3 rfl) ?_
                            exact jret _ _ _ ((go + (((t : Int) + 7) / 8)), (((z28 + 5).toNat : Nat) : Int), (t : Int), xp1_195, xs1_195, d3) _ _ (Or.inl rfl) (Or.inr (Or.inr ⟨by omega, ⟨by omega, by omega, by rw [hTT], by omega⟩, by rw [hTT], show (((z28 + 5).toNat : Nat) : Int) = z28 + 5 by omega, by rw [hTT]; exact fun k hk => (hu1 k hk).trans (hf k hk), hu2⟩)) (jP.sub [0, 1, 2, 3, 4] rfl) (jD.sub [0, 1, 2, 3, 4] (by decide) rfl) jS d_Mod_read_199
                          ·
                            obtain ⟨hR1, hsy, hrd⟩ := hS.resolve_left (fun q => absurd q.1 (by omega))
                            refine lv_aload_n jx jb d_Mod_read_88 rfl (lv_at jl 0 rfl) ?_
                            refine lv_iload jx jb d_Mod_read_89 (lv_at jl 4 rfl) ?_
                            refine z_backi (wr := [(rp, .inl (cI, 256, .inl (zA xp))), (rs, .inl (cI, 4096, .inl (zA xs))), (rd, .inl (cI, 256, .inl (zA d3)))]) jP jD jS jA [0, 1] [2, 3, 4] rfl rfl (by decide) (by decide) (va_runV (As := [.int (iZ R2)]) (rest := []) ⟨jx, jb, jml, jown, jts⟩ (c_M_takeNumber l D cI cB cZ H.size r ri ro rc rp rs rd rk rh iL go oL o bP xi t R2 (by first | assumption | omega) (by first | assumption | omega) (by first | assumption | omega) (by omega) (by omega)) (zc_V 1 jts cd_Mod_takeNumber lk_Mod_102 im_Mod_takeNumber se_Mod_takeNumber in_Mod hd_Mod_takeNumber ⟨Nat.le_of_ble_eq_true rfl, Nat.le_of_ble_eq_true rfl⟩ rfl rfl) (z_preV jK jP jD [0, 1] (by decide) rfl rfl rfl rfl) rfl rfl jl.1 rfl (lv_room (Nat.le_of_ble_eq_true rfl)) d_Mod_read_91 ⟨Nat.le_of_ble_eq_true rfl, Nat.le_of_ble_eq_true rfl⟩) (fun z91 u91 H locs hz91 jP jD jS => ?_)
                            obtain ⟨bR1_91, rfl⟩ : ∃ z, z = u91 := ⟨_, rfl⟩
                            have jP : va_P D classes [(r, .inr (4, [.ref ri, .int (iZ iL), .int (iZ go), .ref ro, .int (iZ oL), .ref rc, .int (iZ (o : Int)), .ref rp, .ref rs, .ref rd, .ref rk, .ref rh, .int (iZ bP), .int (iZ bR1_91)])), (ri, .inl (cI, 6000, .inl (zA xi))), (rp, .inl (cI, 256, .inl (zA xp))), (rs, .inl (cI, 4096, .inl (zA xs))), (rd, .inl (cI, 256, .inl (zA d3)))] H := jP.sub [3, 4, 0, 1, 2] rfl
                            have jD : va_D A [(r, .inr (4, [.ref ri, .int (iZ iL), .int (iZ go), .ref ro, .int (iZ oL), .ref rc, .int (iZ (o : Int)), .ref rp, .ref rs, .ref rd, .ref rk, .ref rh, .int (iZ bP), .int (iZ bR1_91)])), (ri, .inl (cI, 6000, .inl (zA xi))), (rp, .inl (cI, 256, .inl (zA xp))), (rs, .inl (cI, 4096, .inl (zA xs))), (rd, .inl (cI, 256, .inl (zA d3)))] := jD.sub [3, 4, 0, 1, 2] (by decide) rfl
                            have hq91 := hz91
                            obtain ⟨hz1, hz2, hz3, hz4⟩ := hq91
                            have hlo := tkZ_lo xi (8 * go.toNat + t) (8 * (iL - go) - t) (show 1 ≤ R2 by omega) hR2.2
                            rw [← hz1] at hlo
                            refine lv_istore (lv' := [(6, .int (iZ z91)), (0, .ref r), (1, .int (iZ x)), (2, .int (iZ y)), (3, .int (iZ (z28 + 5))), (4, .int (iZ R2)), (5, .int (iZ (s1 : Int)))]) jx jb d_Mod_read_94 jl (by decide) rfl (fun ls jl => ?_)
                            refine lv_iload jx jb d_Mod_read_96 (lv_at jl 0 rfl) ?_
                            refine lv_iconst (v := iZ (-1)) jx jb d_Mod_read_98 rfl ?_
                            refine z_icmp_ne (tgt := 105) jx jb d_Mod_read_99 (by decide) ⟨⟨by omega, by omega⟩, ⟨by decide, by decide⟩⟩ (fun hc99 => ?_) (fun hc99 => ?_)
                            ·
                              obtain ⟨hzA, hzB, hzC⟩ := hz2 hc99
                              have hav := tkU_av hz1 hc99
                              obtain rfl : bR1_91 = ((t + tkU xi (8 * go.toNat + t) R2 : Nat) : Int) := by rw [hzC]; exact (Int.natCast_add _ _).symm
                              have hwb := wgt_b (show -1 ≤ z91 - 1 ∧ z91 - 1 ≤ 65536 by omega)
                              have hw1 := wgt_le (show -1 ≤ z91 - 1 by omega) (show z91 - 1 ≤ R2 by omega) hR1
                              refine lv_aload_n jx jb d_Mod_read_105 rfl (lv_at jl 1 rfl) ?_
                              refine va_get (D := D) (ci := 4) (v := .ref rd) (C := R_Mod) (T := F_Mod) (N := 14) jx jb jts i_Mod jown jK.1 jP 0 rfl rfl 9 (by decide) (jts _ fl_Mod_25) (fun _ h9 => h9) rfl d_Mod_read_106 ?_
                              refine lv_iload jx jb d_Mod_read_109 (lv_at jl 6 rfl) ?_
                              refine lv_iload jx jb d_Mod_read_111 (lv_at jl 0 rfl) ?_
                              refine lv_iconst (v := iZ 1) jx jb d_Mod_read_113 rfl ?_
                              refine z_isub jx jb d_Mod_read_114 ?_
                              refine z_iast jx jb jK.1 jP jD jS 4 0 rfl rfl s1 (by omega) d_Mod_read_115 (fun H locs jP jD jS => ?_)
                              have jP : va_P D classes [(r, .inr (4, [.ref ri, .int (iZ iL), .int (iZ go), .ref ro, .int (iZ oL), .ref rc, .int (iZ (o : Int)), .ref rp, .ref rs, .ref rd, .ref rk, .ref rh, .int (iZ bP), .int (iZ ((t + tkU xi (8 * go.toNat + t) R2 : Nat) : Int))])), (ri, .inl (cI, 6000, .inl (zA xi))), (rp, .inl (cI, 256, .inl (zA xp))), (rs, .inl (cI, 4096, .inl (zA xs))), (rd, .inl (cI, 256, .inl (zA (zu d3 s1 (z91 - 1)))))] H := jP
                              have jD : va_D A [(r, .inr (4, [.ref ri, .int (iZ iL), .int (iZ go), .ref ro, .int (iZ oL), .ref rc, .int (iZ (o : Int)), .ref rp, .ref rs, .ref rd, .ref rk, .ref rh, .int (iZ bP), .int (iZ ((t + tkU xi (8 * go.toNat + t) R2 : Nat) : Int))])), (ri, .inl (cI, 6000, .inl (zA xi))), (rp, .inl (cI, 256, .inl (zA xp))), (rs, .inl (cI, 4096, .inl (zA xs))), (rd, .inl (cI, 256, .inl (zA (zu d3 s1 (z91 - 1)))))] := jD
                              refine lv_iload jx jb d_Mod_read_116 (lv_at jl 5 rfl) ?_
                              refine lv_aload_n jx jb d_Mod_read_118 rfl (lv_at jl 1 rfl) ?_
                              refine va_get (D := D) (ci := 4) (v := .ref rd) (C := R_Mod) (T := F_Mod) (N := 14) jx jb jts i_Mod jown jK.1 jP 0 rfl rfl 9 (by decide) (jts _ fl_Mod_25) (fun _ h9 => h9) rfl d_Mod_read_119 ?_
                              refine lv_iload jx jb d_Mod_read_122 (lv_at jl 6 rfl) ?_
                              refine z_iald jx jb jK.1 jP 4 0 rfl rfl s1 (by omega) d_Mod_read_124 ?_
                              refine z_top (z91 - 1) (zu_s) ?_
                              refine z_backe (va_runS (As := [.int (iZ (z91 - 1))]) (rest := [.int (iZ R2)]) ⟨jx, jb, jml, jown, jts⟩ (c_M_weight l D cI cB cZ (z91 - 1) (by first | assumption | omega)) (zc_S 1 jts cd_Mod_weight lk_Mod_46 st_Mod_weight in_Mod hd_Mod_weight ⟨Nat.le_of_ble_eq_true rfl, Nat.le_of_ble_eq_true rfl⟩ rfl rfl) (z_preSR jK jP [] rfl) rfl rfl jl.1 rfl (lv_room (Nat.le_of_ble_eq_true rfl)) d_Mod_read_125 ⟨Nat.le_of_ble_eq_true rfl, Nat.le_of_ble_eq_true rfl⟩) ?_
                              refine z_isub jx jb d_Mod_read_128 ?_
                              refine lv_istore (lv' := [(4, .int (iZ (R2 - (wgt (z91 - 1))))), (6, .int (iZ z91)), (0, .ref r), (1, .int (iZ x)), (2, .int (iZ y)), (3, .int (iZ (z28 + 5))), (5, .int (iZ (s1 : Int)))]) jx jb d_Mod_read_129 jl (by decide) rfl (fun ls jl => ?_)
                              refine lv_iload jx jb d_Mod_read_131 (lv_at jl 0 rfl) ?_
                              refine z_if_le (tgt := 145) jx jb d_Mod_read_133 (by decide) ⟨by omega, by omega⟩ (fun hc133 => ?_) (fun hc133 => ?_)
                              ·
                                refine lv_iload jx jb d_Mod_read_145 (lv_at jl 1 rfl) ?_
                                refine lv_iconst (v := iZ 1) jx jb d_Mod_read_147 rfl ?_
                                refine z_icmp_ne (tgt := 160) jx jb d_Mod_read_148 (by decide) ⟨⟨by omega, by omega⟩, ⟨by decide, by decide⟩⟩ (fun hc148 => ?_) (fun hc148 => ?_)
                                ·
                                  refine lv_iload jx jb d_Mod_read_160 (lv_at jl 6 rfl) ?_
                                  refine z_if_ge (tgt := 168) jx jb d_Mod_read_162 (by decide) ⟨by omega, by omega⟩ (fun hc162 => ?_) (fun hc162 => ?_)
                                  ·
                                    refine lv_iinc (v := iZ ((s1 : Int) + 1)) (lv' := [(5, .int (iZ ((s1 : Int) + 1))), (4, .int (iZ (R2 - (wgt (z91 - 1))))), (6, .int (iZ z91)), (0, .ref r), (1, .int (iZ x)), (2, .int (iZ y)), (3, .int (iZ (z28 + 5)))]) jx jb d_Mod_read_168 jl (k := 6) rfl (iZ_add _ _) (by decide) rfl (fun ls jl => ?_)
                                    refine lv_goto (tgt := 83) jx jb d_Mod_read_171 (by decide) ?_
                                    exact ih83 (s1 + 1) (t + tkU xi (8 * go.toNat + t) R2) (R2 - (wgt (z91 - 1))) (zu pt s1 (z91 - 1)) (zu d3 s1 (z91 - 1)) (by omega) (by omega) (by omega) (by omega) (Or.inl ⟨hc133, rdR_ok hrd (by omega) hz1 hc99 hc133⟩) (zu_cg hf) _ _ (jP.sub [0, 1, 2, 3, 4] rfl) (jD.sub [0, 1, 2, 3, 4] (by decide) rfl) jS _ (lv_sub jl [3, 4, 5, 6, 1, 0] rfl)
                                  ·
                                    exfalso; omega
                                ·
                                  exfalso; rw [hc148, show wgt (1 - 1) = 0 from rfl] at hc133; omega
                              ·
                                refine lv_iload jx jb d_Mod_read_136 (lv_at jl 6 rfl) ?_
                                refine lv_iload_n jx jb d_Mod_read_138 rfl (lv_at jl 4 rfl) ?_
                                refine z_icmp_ne (tgt := 145) jx jb d_Mod_read_139 (by decide) ⟨⟨by omega, by omega⟩, ⟨by omega, by omega⟩⟩ (fun hc139 => ?_) (fun hc139 => ?_)
                                ·
                                  refine lv_iload jx jb d_Mod_read_145 (lv_at jl 1 rfl) ?_
                                  refine lv_iconst (v := iZ 1) jx jb d_Mod_read_147 rfl ?_
                                  refine z_icmp_ne (tgt := 160) jx jb d_Mod_read_148 (by decide) ⟨⟨by omega, by omega⟩, ⟨by decide, by decide⟩⟩ (fun hc148 => ?_) (fun hc148 => ?_)
                                  ·
                                    refine lv_iload jx jb d_Mod_read_160 (lv_at jl 6 rfl) ?_
                                    refine z_if_ge (tgt := 168) jx jb d_Mod_read_162 (by decide) ⟨by omega, by omega⟩ (fun hc162 => ?_) (fun hc162 => ?_)
                                    ·
                                      refine lv_iinc (v := iZ ((s1 : Int) + 1)) (lv' := [(5, .int (iZ ((s1 : Int) + 1))), (4, .int (iZ (R2 - (wgt (z91 - 1))))), (6, .int (iZ z91)), (0, .ref r), (1, .int (iZ x)), (2, .int (iZ y)), (3, .int (iZ (z28 + 5)))]) jx jb d_Mod_read_168 jl (k := 6) rfl (iZ_add _ _) (by decide) rfl (fun ls jl => ?_)
                                      refine lv_goto (tgt := 83) jx jb d_Mod_read_171 (by decide) ?_
                                      exact ih83 (s1 + 1) (t + tkU xi (8 * go.toNat + t) R2) (R2 - (wgt (z91 - 1))) (zu pt s1 (z91 - 1)) (zu d3 s1 (z91 - 1)) (by omega) (by omega) (by omega) (by omega) (Or.inr ⟨by omega, by omega, rdR_n hrd (by omega) hz1 hc99 (by omega) hc148 (by omega)⟩) (zu_cg hf) _ _ (jP.sub [0, 1, 2, 3, 4] rfl) (jD.sub [0, 1, 2, 3, 4] (by decide) rfl) jS _ (lv_sub jl [3, 4, 5, 6, 1, 0] rfl)
                                    ·
                                      exfalso; omega
                                  ·
                                    refine lv_aload_n jx jb d_Mod_read_151 rfl (lv_at jl 2 rfl) ?_
                                    refine lv_iload jx jb d_Mod_read_152 (lv_at jl 6 rfl) ?_
                                    refine lv_iload_n jx jb d_Mod_read_154 rfl (lv_at jl 4 rfl) ?_
                                    refine z_top ((y.toNat : Nat) : Int) (by omega) ?_
                                    refine z_backi (wr := [(rp, .inl (cI, 256, .inl (zA xp))), (rs, .inl (cI, 4096, .inl (zA xs))), (rd, .inl (cI, 256, .inl (zA (zu d3 s1 (z91 - 1)))))]) jP jD jS jA [0, 1] [2, 3, 4] rfl rfl (by decide) (by decide) (va_runV (As := [.int (iZ (s1 : Int)), .int (iZ ((y.toNat : Nat) : Int))]) (rest := []) ⟨jx, jb, jml, jown, jts⟩ (c_M_takeZeros l D cI cB cZ H.size r ri ro rc rp rs rd rk rh iL go oL o bP xi (t + tkU xi (8 * go.toNat + t) R2 : Nat) s1 (y.toNat : Nat) (by first | assumption | omega) (by first | assumption | omega) (by first | assumption | omega) (by omega) (by omega)) (zc_V 2 jts cd_Mod_takeZeros lk_Mod_105 im_Mod_takeZeros se_Mod_takeZeros in_Mod hd_Mod_takeZeros ⟨Nat.le_of_ble_eq_true rfl, Nat.le_of_ble_eq_true rfl⟩ rfl rfl) (z_preV jK jP jD [0, 1] (by decide) rfl rfl rfl rfl) rfl rfl jl.1 rfl (lv_room (Nat.le_of_ble_eq_true rfl)) d_Mod_read_155 ⟨Nat.le_of_ble_eq_true rfl, Nat.le_of_ble_eq_true rfl⟩) (fun z155 u155 H locs hz155 jP jD jS => ?_)
                                    obtain ⟨bR1_155, rfl⟩ : ∃ z, z = u155 := ⟨_, rfl⟩
                                    have jP : va_P D classes [(r, .inr (4, [.ref ri, .int (iZ iL), .int (iZ go), .ref ro, .int (iZ oL), .ref rc, .int (iZ (o : Int)), .ref rp, .ref rs, .ref rd, .ref rk, .ref rh, .int (iZ bP), .int (iZ bR1_155)])), (ri, .inl (cI, 6000, .inl (zA xi))), (rp, .inl (cI, 256, .inl (zA xp))), (rs, .inl (cI, 4096, .inl (zA xs))), (rd, .inl (cI, 256, .inl (zA (zu d3 s1 (z91 - 1)))))] H := jP.sub [3, 4, 0, 1, 2] rfl
                                    have jD : va_D A [(r, .inr (4, [.ref ri, .int (iZ iL), .int (iZ go), .ref ro, .int (iZ oL), .ref rc, .int (iZ (o : Int)), .ref rp, .ref rs, .ref rd, .ref rk, .ref rh, .int (iZ bP), .int (iZ bR1_155)])), (ri, .inl (cI, 6000, .inl (zA xi))), (rp, .inl (cI, 256, .inl (zA xp))), (rs, .inl (cI, 4096, .inl (zA xs))), (rd, .inl (cI, 256, .inl (zA (zu d3 s1 (z91 - 1)))))] := jD.sub [3, 4, 0, 1, 2] (by decide) rfl
                                    obtain ⟨hq155, hb155⟩ := hz155
                                    have hbm := bzM_b (last := y.toNat) (b := xi) (q0 := (8 * go.toNat)) (A := (8 * (iL - go))) (t := t + tkU xi (8 * go.toNat + t) R2) (s := s1 + 1)
                                    rw [← hq155] at hbm
                                    refine lv_istore (lv' := [(5, .int (iZ z155)), (4, .int (iZ (R2 - (wgt (z91 - 1))))), (6, .int (iZ z91)), (0, .ref r), (1, .int (iZ x)), (2, .int (iZ y)), (3, .int (iZ (z28 + 5)))]) jx jb d_Mod_read_158 jl (by decide) rfl (fun ls jl => ?_)
                                    refine lv_iload jx jb d_Mod_read_160 (lv_at jl 0 rfl) ?_
                                    refine z_if_ge (tgt := 168) jx jb d_Mod_read_162 (by decide) ⟨by omega, by omega⟩ (fun hc162 => ?_) (fun hc162 => ?_)
                                    ·
                                      obtain ⟨hbA, hbB, hbC, hbD⟩ := hb155 (by omega)
                                      obtain rfl : bR1_155 = ((bz xi (8 * go.toNat) (8 * (iL - go)) y.toNat 256 (t + tkU xi (8 * go.toNat + t) R2) (s1 + 1)).2 : Int) := hbA
                                      refine lv_iinc (v := iZ (((z155 + 1).toNat : Nat) : Int)) (lv' := [(5, .int (iZ (((z155 + 1).toNat : Nat) : Int))), (4, .int (iZ (R2 - (wgt (z91 - 1))))), (6, .int (iZ z91)), (0, .ref r), (1, .int (iZ x)), (2, .int (iZ y)), (3, .int (iZ (z28 + 5)))]) jx jb d_Mod_read_168 jl (k := 0) rfl (by rw [show (((z155 + 1).toNat : Nat) : Int) = z155 + 1 from by omega]; exact iZ_add _ _) (by decide) rfl (fun ls jl => ?_)
                                      refine lv_goto (tgt := 83) jx jb d_Mod_read_171 (by decide) ?_
                                      exact ih83 ((z155 + 1).toNat) ((bz xi (8 * go.toNat) (8 * (iL - go)) y.toNat 256 (t + tkU xi (8 * go.toNat + t) R2) (s1 + 1)).2) (R2 - (wgt (z91 - 1))) (zu pt s1 (z91 - 1)) (zu d3 s1 (z91 - 1)) (by omega) (by omega) (by omega) (hbB) (Or.inr ⟨by omega, by omega, rdR_bzp hrd (by omega) hz1 (by omega) hc148 hq155 (by omega)⟩) (zu_cg hf) _ _ (jP.sub [0, 1, 2, 3, 4] rfl) (jD.sub [0, 1, 2, 3, 4] (by decide) rfl) jS _ (lv_sub jl [3, 4, 5, 6, 1, 0] rfl)
                                    ·
                                      refine lv_iload jx jb d_Mod_read_165 (lv_at jl 0 rfl) ?_
                                      exact jret _ _ _ (go, (o : Int), bR1_155, xp, xs, (zu d3 s1 (z91 - 1))) _ _ (Or.inl rfl) (Or.inr (Or.inl ⟨by omega, Or.inr (Or.inr ⟨by omega, by omega, rdR_bzn hrd (by omega) hz1 (by omega) hc148 hq155 hc162⟩), rfl, rfl, rfl, rfl⟩)) (jP.sub [0, 1, 2, 3, 4] rfl) (jD.sub [0, 1, 2, 3, 4] (by decide) rfl) jS d_Mod_read_167
                                ·
                                  refine lv_bipush (v := iZ (-2)) jx jb d_Mod_read_142 (by decide) ?_
                                  exact jret _ _ _ (go, (o : Int), ((t + tkU xi (8 * go.toNat + t) R2 : Nat) : Int), xp, xs, (zu d3 s1 (z91 - 1))) _ _ (Or.inl rfl) (Or.inr (Or.inl ⟨by omega, Or.inr (Or.inr ⟨by omega, by omega, Or.inl ⟨rdR_l2 hrd (by omega) hz1 hc99 (by omega) (by omega), rfl⟩⟩), rfl, rfl, rfl, rfl⟩)) (jP.sub [0, 1, 2, 3, 4] rfl) (jD.sub [0, 1, 2, 3, 4] (by decide) rfl) jS d_Mod_read_144
                            ·
                              refine lv_bipush (v := iZ (-3)) jx jb d_Mod_read_102 (by decide) ?_
                              exact jret _ _ _ (go, (o : Int), bR1_91, xp, xs, d3) _ _ (Or.inl rfl) (Or.inr (Or.inl ⟨by omega, Or.inr (Or.inr ⟨by omega, by omega, Or.inr ⟨rdR_3 hrd (by omega) hz1 hc99, rfl⟩⟩), rfl, rfl, rfl, rfl⟩)) (jP.sub [0, 1, 2, 3, 4] rfl) (jD.sub [0, 1, 2, 3, 4] (by decide) rfl) jS d_Mod_read_104
                      exact hloop83 ((257 - 0) + 1) 0 4 (2 ^ ((5 + nbI xi (8 * go.toNat) 4).toNat)) (fun _ => 0) d2 (Nat.lt_succ_self _) (by first | assumption | omega) (by first | assumption | omega) (by first | assumption | omega) (Or.inr ⟨by omega, Nat.zero_le _, rdR_0⟩) (fun k hk => hd2 k (by omega)) _ _ (jP.sub [0, 1, 2, 3, 4] rfl) (jD.sub [0, 1, 2, 3, 4] (by decide) rfl) jS _ (lv_sub jl [2, 3, 4, 5, 1, 0] rfl)
                    ·
                      refine lv_aload_n jx jb d_Mod_read_61 rfl (lv_at jl 0 rfl) ?_
                      refine va_get (D := D) (ci := 4) (v := .ref rd) (C := R_Mod) (T := F_Mod) (N := 14) jx jb jts i_Mod jown jK.1 jP 0 rfl rfl 9 (by decide) (jts _ fl_Mod_25) (fun _ h9 => h9) rfl d_Mod_read_62 ?_
                      refine lv_iload jx jb d_Mod_read_65 (lv_at jl 4 rfl) ?_
                      refine lv_iconst (v := iZ 0) jx jb d_Mod_read_67 rfl ?_
                      refine z_iast jx jb jK.1 jP jD jS 4 0 rfl rfl i (by omega) d_Mod_read_68 (fun H locs jP jD jS => ?_)
                      have jP : va_P D classes [(r, .inr (4, [.ref ri, .int (iZ iL), .int (iZ go), .ref ro, .int (iZ oL), .ref rc, .int (iZ (o : Int)), .ref rp, .ref rs, .ref rd, .ref rk, .ref rh, .int (iZ bP), .int (iZ ((4 : Nat) : Int))])), (ri, .inl (cI, 6000, .inl (zA xi))), (rp, .inl (cI, 256, .inl (zA xp))), (rs, .inl (cI, 4096, .inl (zA xs))), (rd, .inl (cI, 256, .inl (zA (zu d2 i 0))))] H := jP
                      have jD : va_D A [(r, .inr (4, [.ref ri, .int (iZ iL), .int (iZ go), .ref ro, .int (iZ oL), .ref rc, .int (iZ (o : Int)), .ref rp, .ref rs, .ref rd, .ref rk, .ref rh, .int (iZ bP), .int (iZ ((4 : Nat) : Int))])), (ri, .inl (cI, 6000, .inl (zA xi))), (rp, .inl (cI, 256, .inl (zA xp))), (rs, .inl (cI, 4096, .inl (zA xs))), (rd, .inl (cI, 256, .inl (zA (zu d2 i 0))))] := jD
                      refine lv_iinc (v := iZ ((i : Int) + 1)) (lv' := [(4, .int (iZ ((i : Int) + 1))), (0, .ref r), (1, .int (iZ x)), (2, .int (iZ y)), (3, .int (iZ (z28 + 5)))]) jx jb d_Mod_read_69 jl (k := 4) rfl (iZ_add _ _) (by decide) rfl (fun ls jl => ?_)
                      refine lv_goto (tgt := 53) jx jb d_Mod_read_72 (by decide) ?_
                      exact ih53 (i + 1) (zu d2 i 0) (by omega) (by first | assumption | omega) (zu_all (v := fun _ => 0) hd2 rfl) _ _ (jP.sub [0, 1, 2, 3, 4] rfl) (jD.sub [0, 1, 2, 3, 4] (by decide) rfl) jS _ (lv_sub jl [1, 2, 3, 4, 0] rfl)
                exact hloop53 ((256 - 0) + 1) 0 xd (Nat.lt_succ_self _) (by first | assumption | omega) (fun k h => absurd h (by omega)) _ _ (jP.sub [0, 1, 2, 3, 4] rfl) (jD.sub [0, 1, 2, 3, 4] (by decide) rfl) jS _ (lv_sub jl [2, 3, 4, 1, 0] rfl)
              ·
                refine lv_iconst (v := iZ (-1)) jx jb d_Mod_read_48 rfl ?_
                exact jret _ _ _ (go, (o : Int), ((4 : Nat) : Int), xp, xs, xd) _ _ (Or.inl rfl) (Or.inr (Or.inl ⟨by omega, Or.inr (Or.inl ⟨by omega, by omega, rfl⟩), rfl, rfl, rfl, rfl⟩)) (jP.sub [0, 1, 2, 3, 4] rfl) (jD.sub [0, 1, 2, 3, 4] (by decide) rfl) jS d_Mod_read_49
            ·
              exfalso; omega
        ·
          refine lv_bipush (v := iZ (-4)) jx jb d_Mod_read_18 (by decide) ?_
          exact jret _ _ _ (go, (o : Int), bR, xp, xs, xd) _ _ (Or.inl rfl) (Or.inl ⟨rfl, by omega, rfl, rfl, rfl, rfl⟩) (jP.sub [0, 1, 2, 3, 4] rfl) (jD.sub [0, 1, 2, 3, 4] (by decide) rfl) jS d_Mod_read_20
  ·
    refine z_if_eq (tgt := 18) jx jb d_Mod_read_4 (by decide) ⟨by decide, by decide⟩ (fun hc4 => ?_) (fun hc4 => ?_)
    ·
      refine lv_bipush (v := iZ (-4)) jx jb d_Mod_read_18 (by decide) ?_
      exact jret _ _ _ (go, (o : Int), bR, xp, xs, xd) _ _ (Or.inl rfl) (Or.inl ⟨rfl, by omega, rfl, rfl, rfl, rfl⟩) (jP.sub [0, 1, 2, 3, 4] rfl) (jD.sub [0, 1, 2, 3, 4] (by decide) rfl) jS d_Mod_read_20
    ·
      exact absurd hc4 (by decide)
