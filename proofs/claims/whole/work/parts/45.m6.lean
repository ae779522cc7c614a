
theorem d_Mod_settle_0 : decode b_Mod_settle 0 = .ok (.aload_n 0, 1) := by decide +kernel
theorem d_Mod_settle_1 : decode b_Mod_settle 1 = .ok (.iload_n 1, 1) := by decide +kernel
theorem d_Mod_settle_2 : decode b_Mod_settle 2 = .ok (.putfield 50, 3) := by decide +kernel
theorem d_Mod_settle_5 : decode b_Mod_settle 5 = .ok (.iconst 1, 1) := by decide +kernel
theorem d_Mod_settle_6 : decode b_Mod_settle 6 = .ok (.iload_n 1, 1) := by decide +kernel
theorem d_Mod_settle_7 : decode b_Mod_settle 7 = .ok (.ishl, 1) := by decide +kernel
theorem d_Mod_settle_8 : decode b_Mod_settle 8 = .ok (.istore_n 2, 1) := by decide +kernel
theorem d_Mod_settle_9 : decode b_Mod_settle 9 = .ok (.iconst 0, 1) := by decide +kernel
theorem d_Mod_settle_10 : decode b_Mod_settle 10 = .ok (.istore_n 3, 1) := by decide +kernel
theorem d_Mod_settle_11 : decode b_Mod_settle 11 = .ok (.iload_n 3, 1) := by decide +kernel
theorem d_Mod_settle_12 : decode b_Mod_settle 12 = .ok (.sipush 256, 3) := by decide +kernel
theorem d_Mod_settle_15 : decode b_Mod_settle 15 = .ok (.if_icmp .ge 21, 3) := by decide +kernel
theorem d_Mod_settle_18 : decode b_Mod_settle 18 = .ok (.aload_n 0, 1) := by decide +kernel
theorem d_Mod_settle_19 : decode b_Mod_settle 19 = .ok (.getfield 19, 3) := by decide +kernel
theorem d_Mod_settle_22 : decode b_Mod_settle 22 = .ok (.iload_n 3, 1) := by decide +kernel
theorem d_Mod_settle_23 : decode b_Mod_settle 23 = .ok (.aload_n 0, 1) := by decide +kernel
theorem d_Mod_settle_24 : decode b_Mod_settle 24 = .ok (.getfield 25, 3) := by decide +kernel
theorem d_Mod_settle_27 : decode b_Mod_settle 27 = .ok (.iload_n 3, 1) := by decide +kernel
theorem d_Mod_settle_28 : decode b_Mod_settle 28 = .ok (.iaload, 1) := by decide +kernel
theorem d_Mod_settle_29 : decode b_Mod_settle 29 = .ok (.iastore, 1) := by decide +kernel
theorem d_Mod_settle_30 : decode b_Mod_settle 30 = .ok (.iinc 3 1, 3) := by decide +kernel
theorem d_Mod_settle_33 : decode b_Mod_settle 33 = .ok (.goto (-22), 3) := by decide +kernel
theorem d_Mod_settle_36 : decode b_Mod_settle 36 = .ok (.iload_n 2, 1) := by decide +kernel
theorem d_Mod_settle_37 : decode b_Mod_settle 37 = .ok (.istore_n 3, 1) := by decide +kernel
theorem d_Mod_settle_38 : decode b_Mod_settle 38 = .ok (.iconst 0, 1) := by decide +kernel
theorem d_Mod_settle_39 : decode b_Mod_settle 39 = .ok (.istore 4, 2) := by decide +kernel
theorem d_Mod_settle_41 : decode b_Mod_settle 41 = .ok (.iload 4, 2) := by decide +kernel
theorem d_Mod_settle_43 : decode b_Mod_settle 43 = .ok (.sipush 256, 3) := by decide +kernel
theorem d_Mod_settle_46 : decode b_Mod_settle 46 = .ok (.if_icmp .ge 31, 3) := by decide +kernel
theorem d_Mod_settle_49 : decode b_Mod_settle 49 = .ok (.aload_n 0, 1) := by decide +kernel
theorem d_Mod_settle_50 : decode b_Mod_settle 50 = .ok (.getfield 19, 3) := by decide +kernel
theorem d_Mod_settle_53 : decode b_Mod_settle 53 = .ok (.iload 4, 2) := by decide +kernel
theorem d_Mod_settle_55 : decode b_Mod_settle 55 = .ok (.iaload, 1) := by decide +kernel
theorem d_Mod_settle_56 : decode b_Mod_settle 56 = .ok (.iconst (-1), 1) := by decide +kernel
theorem d_Mod_settle_57 : decode b_Mod_settle 57 = .ok (.if_icmp .ne 14, 3) := by decide +kernel
theorem d_Mod_settle_60 : decode b_Mod_settle 60 = .ok (.iinc 3 (-1), 3) := by decide +kernel
theorem d_Mod_settle_63 : decode b_Mod_settle 63 = .ok (.aload_n 0, 1) := by decide +kernel
theorem d_Mod_settle_64 : decode b_Mod_settle 64 = .ok (.getfield 22, 3) := by decide +kernel
theorem d_Mod_settle_67 : decode b_Mod_settle 67 = .ok (.iload_n 3, 1) := by decide +kernel
theorem d_Mod_settle_68 : decode b_Mod_settle 68 = .ok (.iload 4, 2) := by decide +kernel
theorem d_Mod_settle_70 : decode b_Mod_settle 70 = .ok (.iastore, 1) := by decide +kernel
theorem d_Mod_settle_71 : decode b_Mod_settle 71 = .ok (.iinc 4 1, 3) := by decide +kernel
theorem d_Mod_settle_74 : decode b_Mod_settle 74 = .ok (.goto (-33), 3) := by decide +kernel
theorem d_Mod_settle_77 : decode b_Mod_settle 77 = .ok (.iload_n 2, 1) := by decide +kernel
theorem d_Mod_settle_78 : decode b_Mod_settle 78 = .ok (.iconst 1, 1) := by decide +kernel
theorem d_Mod_settle_79 : decode b_Mod_settle 79 = .ok (.ishr, 1) := by decide +kernel
theorem d_Mod_settle_80 : decode b_Mod_settle 80 = .ok (.iload_n 2, 1) := by decide +kernel
theorem d_Mod_settle_81 : decode b_Mod_settle 81 = .ok (.iconst 3, 1) := by decide +kernel
theorem d_Mod_settle_82 : decode b_Mod_settle 82 = .ok (.ishr, 1) := by decide +kernel
theorem d_Mod_settle_83 : decode b_Mod_settle 83 = .ok (.iadd, 1) := by decide +kernel
theorem d_Mod_settle_84 : decode b_Mod_settle 84 = .ok (.iconst 3, 1) := by decide +kernel
theorem d_Mod_settle_85 : decode b_Mod_settle 85 = .ok (.iadd, 1) := by decide +kernel
theorem d_Mod_settle_86 : decode b_Mod_settle 86 = .ok (.istore 4, 2) := by decide +kernel
theorem d_Mod_settle_88 : decode b_Mod_settle 88 = .ok (.iconst 0, 1) := by decide +kernel
theorem d_Mod_settle_89 : decode b_Mod_settle 89 = .ok (.istore 5, 2) := by decide +kernel
theorem d_Mod_settle_91 : decode b_Mod_settle 91 = .ok (.iconst 0, 1) := by decide +kernel
theorem d_Mod_settle_92 : decode b_Mod_settle 92 = .ok (.istore 6, 2) := by decide +kernel
theorem d_Mod_settle_94 : decode b_Mod_settle 94 = .ok (.iconst 0, 1) := by decide +kernel
theorem d_Mod_settle_95 : decode b_Mod_settle 95 = .ok (.istore 7, 2) := by decide +kernel
theorem d_Mod_settle_97 : decode b_Mod_settle 97 = .ok (.iload 7, 2) := by decide +kernel
theorem d_Mod_settle_99 : decode b_Mod_settle 99 = .ok (.iload_n 2, 1) := by decide +kernel
theorem d_Mod_settle_100 : decode b_Mod_settle 100 = .ok (.if_icmp .ge 65, 3) := by decide +kernel
theorem d_Mod_settle_103 : decode b_Mod_settle 103 = .ok (.iload 7, 2) := by decide +kernel
theorem d_Mod_settle_105 : decode b_Mod_settle 105 = .ok (.iload 4, 2) := by decide +kernel
theorem d_Mod_settle_107 : decode b_Mod_settle 107 = .ok (.imul, 1) := by decide +kernel
theorem d_Mod_settle_108 : decode b_Mod_settle 108 = .ok (.iload_n 2, 1) := by decide +kernel
theorem d_Mod_settle_109 : decode b_Mod_settle 109 = .ok (.irem, 1) := by decide +kernel
theorem d_Mod_settle_110 : decode b_Mod_settle 110 = .ok (.istore 8, 2) := by decide +kernel
theorem d_Mod_settle_112 : decode b_Mod_settle 112 = .ok (.iload 8, 2) := by decide +kernel
theorem d_Mod_settle_114 : decode b_Mod_settle 114 = .ok (.iload_n 3, 1) := by decide +kernel
theorem d_Mod_settle_115 : decode b_Mod_settle 115 = .ok (.if_icmp .ge 44, 3) := by decide +kernel
theorem d_Mod_settle_118 : decode b_Mod_settle 118 = .ok (.iload 5, 2) := by decide +kernel
theorem d_Mod_settle_120 : decode b_Mod_settle 120 = .ok (.sipush 255, 3) := by decide +kernel
theorem d_Mod_settle_123 : decode b_Mod_settle 123 = .ok (.if_icmp .ge 24, 3) := by decide +kernel
theorem d_Mod_settle_126 : decode b_Mod_settle 126 = .ok (.iload 6, 2) := by decide +kernel
theorem d_Mod_settle_128 : decode b_Mod_settle 128 = .ok (.aload_n 0, 1) := by decide +kernel
theorem d_Mod_settle_129 : decode b_Mod_settle 129 = .ok (.getfield 19, 3) := by decide +kernel
theorem d_Mod_settle_132 : decode b_Mod_settle 132 = .ok (.iload 5, 2) := by decide +kernel
theorem d_Mod_settle_134 : decode b_Mod_settle 134 = .ok (.iaload, 1) := by decide +kernel
theorem d_Mod_settle_135 : decode b_Mod_settle 135 = .ok (.if_icmp .lt 12, 3) := by decide +kernel
theorem d_Mod_settle_138 : decode b_Mod_settle 138 = .ok (.iinc 5 1, 3) := by decide +kernel
theorem d_Mod_settle_141 : decode b_Mod_settle 141 = .ok (.iconst 0, 1) := by decide +kernel
theorem d_Mod_settle_142 : decode b_Mod_settle 142 = .ok (.istore 6, 2) := by decide +kernel
theorem d_Mod_settle_144 : decode b_Mod_settle 144 = .ok (.goto (-26), 3) := by decide +kernel
theorem d_Mod_settle_147 : decode b_Mod_settle 147 = .ok (.aload_n 0, 1) := by decide +kernel
theorem d_Mod_settle_148 : decode b_Mod_settle 148 = .ok (.getfield 22, 3) := by decide +kernel
theorem d_Mod_settle_151 : decode b_Mod_settle 151 = .ok (.iload 8, 2) := by decide +kernel
theorem d_Mod_settle_153 : decode b_Mod_settle 153 = .ok (.iload 5, 2) := by decide +kernel
theorem d_Mod_settle_155 : decode b_Mod_settle 155 = .ok (.iastore, 1) := by decide +kernel
theorem d_Mod_settle_156 : decode b_Mod_settle 156 = .ok (.iinc 6 1, 3) := by decide +kernel
theorem d_Mod_settle_159 : decode b_Mod_settle 159 = .ok (.iinc 7 1, 3) := by decide +kernel
theorem d_Mod_settle_162 : decode b_Mod_settle 162 = .ok (.goto (-65), 3) := by decide +kernel
theorem d_Mod_settle_165 : decode b_Mod_settle 165 = .ok (.return_, 1) := by decide +kernel
abbrev rm_M_settle : Room := { frames := 0, cells := 0, slots := 0, locals := 0 }
set_option maxHeartbeats 4000000 in
set_option maxRecDepth 100000 in
theorem c_M_settle (l : Launch) (D : va_G) (cI cB cZ : ClassId) (sz : Nat) (r : Nat) (ri : Nat) (ro : Nat) (rc : Nat) (rp : Nat) (rs : Nat) (rd : Nat) (rk : Nat) (rh : Nat) (iL : Int) (go : Int) (oL : Int) (bP : Int) (bR : Int) (oz : Int) (o : Nat) (xp : Nat → Int) (xs : Nat → Int) (xd : Nat → Int) (ho : 5 ≤ o ∧ o ≤ 12) (hdr : ∀ k, k < 256 → -1 ≤ xd k ∧ xd k ≤ 65536) (hsum : cum xd 256 = 2 ^ o) : Met l y_Mod_settle (.code y_Mod_settle b_Mod_settle 9 none :: zT) rm_M_settle (zPc D classes (TY cI cB cZ) [(r, .inr (4, [.ref ri, .int (iZ iL), .int (iZ go), .ref ro, .int (iZ oL), .ref rc, .int (iZ oz), .ref rp, .ref rs, .ref rd, .ref rk, .ref rh, .int (iZ bP), .int (iZ bR)])), (rp, .inl (cI, 256, .inl (zA xp))), (rs, .inl (cI, 4096, .inl (zA xs))), (rd, .inl (cI, 256, .inl (zA xd)))] sz [.ref r, .int (iZ (o : Int))]) (zFv (S := (Nat → Int) × (Nat → Int)) D classes (fun u => (∀ k, k < 256 → u.1 k = xd k) ∧ u.2 = tbT u.1 o xs) (fun u => [(r, .inr (4, [.ref ri, .int (iZ iL), .int (iZ go), .ref ro, .int (iZ oL), .ref rc, .int (iZ (o : Int)), .ref rp, .ref rs, .ref rd, .ref rk, .ref rh, .int (iZ bP), .int (iZ bR)])), (rp, .inl (cI, 256, .inl (zA u.1))), (rs, .inl (cI, 4096, .inl (zA u.2))), (rd, .inl (cI, 256, .inl (zA xd)))]) (va_A [(r, .inr (4, [.ref ri, .int (iZ iL), .int (iZ go), .ref ro, .int (iZ oL), .ref rc, .int (iZ oz), .ref rp, .ref rs, .ref rd, .ref rk, .ref rh, .int (iZ bP), .int (iZ bR)])), (rp, .inl (cI, 256, .inl (zA xp))), (rs, .inl (cI, 4096, .inl (zA xs))), (rd, .inl (cI, 256, .inl (zA xd)))] sz)) 0 0 (va_A [(r, .inr (4, [.ref ri, .int (iZ iL), .int (iZ go), .ref ro, .int (iZ oL), .ref rc, .int (iZ oz), .ref rp, .ref rs, .ref rd, .ref rk, .ref rh, .int (iZ bP), .int (iZ bR)])), (rp, .inl (cI, 256, .inl (zA xp))), (rs, .inl (cI, 4096, .inl (zA xs))), (rd, .inl (cI, 256, .inl (zA xd)))] sz) := by
  refine z_ofv (by decide) (Nat.le_of_ble_eq_true rfl) rfl ?_
  intro p e s m args below meth c A Q E jmn jA jK jret H locs jP jD jS ls jl
  obtain ⟨jx, jb, jrt, jml, jown, jts, jlk⟩ := E
  have jown : s.vm.findClass R_Mod = some m.cls := jown
  have hp12 := p2_le ho.2
  have hp0 := p2_pos o
  have hpn := p2n o
  have jl : lv_has ls 9 [(0, .ref r), (1, .int (iZ (o : Int)))] := jl
  refine lv_aload_n jx jb d_Mod_settle_0 rfl (lv_at jl 0 rfl) ?_
  refine lv_iload_n jx jb d_Mod_settle_1 rfl (lv_at jl 1 rfl) ?_
  refine va_put (D := D) (ci := 4) (v := .int (iZ (o : Int))) (ty := .int) (C := R_Mod) (T := F_Mod) (N := 14) jx jb jts i_Mod t_Mod t_Mod_ok n_Mod jown jK.1 jP jD jS 0 rfl rfl 6 (by decide) (jts _ fl_Mod_50) (fun _ h9 => h9) rfl (by decide +kernel) rfl rfl (Nat.le_of_ble_eq_true rfl) d_Mod_settle_2 (fun H locs jP jD jS => ?_)
  have jP : va_P D classes [(r, .inr (4, [.ref ri, .int (iZ iL), .int (iZ go), .ref ro, .int (iZ oL), .ref rc, .int (iZ (o : Int)), .ref rp, .ref rs, .ref rd, .ref rk, .ref rh, .int (iZ bP), .int (iZ bR)])), (rp, .inl (cI, 256, .inl (zA xp))), (rs, .inl (cI, 4096, .inl (zA xs))), (rd, .inl (cI, 256, .inl (zA xd)))] H := jP
  have jD : va_D A [(r, .inr (4, [.ref ri, .int (iZ iL), .int (iZ go), .ref ro, .int (iZ oL), .ref rc, .int (iZ (o : Int)), .ref rp, .ref rs, .ref rd, .ref rk, .ref rh, .int (iZ bP), .int (iZ bR)])), (rp, .inl (cI, 256, .inl (zA xp))), (rs, .inl (cI, 4096, .inl (zA xs))), (rd, .inl (cI, 256, .inl (zA xd)))] := jD
  refine lv_iconst (v := iZ 1) jx jb d_Mod_settle_5 rfl ?_
  refine lv_iload_n jx jb d_Mod_settle_6 rfl (lv_at jl 1 rfl) ?_
  refine z_ishl jx jb d_Mod_settle_7 o (2 ^ o) (rfl) (by omega) ?_
  refine z_top (2 ^ o) (Int.one_mul _) ?_
  refine lv_istore_n (lv' := [(2, .int (iZ (2 ^ o))), (0, .ref r), (1, .int (iZ (o : Int)))]) jx jb d_Mod_settle_8 rfl jl (by decide) rfl (fun ls jl => ?_)
  refine lv_iconst (v := iZ 0) jx jb d_Mod_settle_9 rfl ?_
  refine lv_istore_n (lv' := [(3, .int (iZ 0)), (2, .int (iZ (2 ^ o))), (0, .ref r), (1, .int (iZ (o : Int)))]) jx jb d_Mod_settle_10 rfl jl (by decide) rfl (fun ls jl => ?_)
  have hloop11 : ∀ (nF : Nat) (i : Nat) (p2 : Nat → Int), 256 - i < nF → (i ≤ 256) → (∀ k, k < i → p2 k = xd k) → ∀ (H : Heap) (locs : List Loc), va_P D classes [(r, .inr (4, [.ref ri, .int (iZ iL), .int (iZ go), .ref ro, .int (iZ oL), .ref rc, .int (iZ (o : Int)), .ref rp, .ref rs, .ref rd, .ref rk, .ref rh, .int (iZ bP), .int (iZ bR)])), (rp, .inl (cI, 256, .inl (zA p2))), (rs, .inl (cI, 4096, .inl (zA xs))), (rd, .inl (cI, 256, .inl (zA xd)))] H → va_D A [(r, .inr (4, [.ref ri, .int (iZ iL), .int (iZ go), .ref ro, .int (iZ oL), .ref rc, .int (iZ (o : Int)), .ref rp, .ref rs, .ref rd, .ref rk, .ref rh, .int (iZ bP), .int (iZ bR)])), (rp, .inl (cI, 256, .inl (zA p2))), (rs, .inl (cI, 4096, .inl (zA xs))), (rd, .inl (cI, 256, .inl (zA xd)))] → va_S A s.heap H locs → ∀ ls : Array Slot, lv_has ls 9 [(0, .ref r), (1, .int (iZ (o : Int))), (2, .int (iZ (2 ^ o))), (3, .int (iZ (i : Int)))] → W p l e rm_M_settle s m args below meth c H locs 0 0 Q (F0 m 11 ls []) := by
    intro nF
    induction nF with
    | zero => intro i p2 hm; exact absurd hm (Nat.not_lt_zero _)
    | succ nF ih11 =>
      intro i p2 hm hi hg H locs jP jD jS ls jl
      refine lv_iload_n jx jb d_Mod_settle_11 rfl (lv_at jl 3 rfl) ?_
      refine lv_sipush (v := iZ 256) jx jb d_Mod_settle_12 (by decide) ?_
      refine z_icmp_ge (tgt := 36) jx jb d_Mod_settle_15 (by decide) ⟨⟨by omega, by omega⟩, ⟨by decide, by decide⟩⟩ (fun hc15 => ?_) (fun hc15 => ?_)
      ·
        have hg2 : ∀ k, k < 256 → p2 k = xd k := fun k hk => hg k (by omega)
        have hpr2 : ∀ k, k < 256 → -1 ≤ p2 k ∧ p2 k ≤ 65536 := fun k hk => by rw [hg2 k hk]; exact hdr k hk
        have hsm2 : cum p2 256 = 2 ^ o := by rw [cum_congr (fun k hk => hg2 k hk)]; exact hsum
        refine lv_iload_n jx jb d_Mod_settle_36 rfl (lv_at jl 2 rfl) ?_
        refine lv_istore_n (lv' := [(3, .int (iZ (2 ^ o))), (0, .ref r), (1, .int (iZ (o : Int))), (2, .int (iZ (2 ^ o)))]) jx jb d_Mod_settle_37 rfl jl (by decide) rfl (fun ls jl => ?_)
        refine lv_iconst (v := iZ 0) jx jb d_Mod_settle_38 rfl ?_
        refine lv_istore (lv' := [(4, .int (iZ 0)), (3, .int (iZ (2 ^ o))), (0, .ref r), (1, .int (iZ (o : Int))), (2, .int (iZ (2 ^ o)))]) jx jb d_Mod_settle_39 jl (by decide) rfl (fun ls jl => ?_)
        have hloop41 : ∀ (nF : Nat) (j : Nat) (E : Int) (t2 : Nat → Int), 256 - j < nF → (j ≤ 256) → (sngl p2 o xs j = (E, t2)) → ∀ (H : Heap) (locs : List Loc), va_P D classes [(r, .inr (4, [.ref ri, .int (iZ iL), .int (iZ go), .ref ro, .int (iZ oL), .ref rc, .int (iZ (o : Int)), .ref rp, .ref rs, .ref rd, .ref rk, .ref rh, .int (iZ bP), .int (iZ bR)])), (rp, .inl (cI, 256, .inl (zA p2))), (rs, .inl (cI, 4096, .inl (zA t2))), (rd, .inl (cI, 256, .inl (zA xd)))] H → va_D A [(r, .inr (4, [.ref ri, .int (iZ iL), .int (iZ go), .ref ro, .int (iZ oL), .ref rc, .int (iZ (o : Int)), .ref rp, .ref rs, .ref rd, .ref rk, .ref rh, .int (iZ bP), .int (iZ bR)])), (rp, .inl (cI, 256, .inl (zA p2))), (rs, .inl (cI, 4096, .inl (zA t2))), (rd, .inl (cI, 256, .inl (zA xd)))] → va_S A s.heap H locs → ∀ ls : Array Slot, lv_has ls 9 [(0, .ref r), (2, .int (iZ (2 ^ o))), (3, .int (iZ E)), (4, .int (iZ (j : Int)))] → W p l e rm_M_settle s m args below meth c H locs 0 0 Q (F0 m 41 ls []) := by
          intro nF
          induction nF with
          | zero => intro j E t2 hm; exact absurd hm (Nat.not_lt_zero _)
          | succ nF ih41 =>
            intro j E t2 hm hj hq H locs jP jD jS ls jl
            have hsb := sngl_b hpr2 hj hq
            refine lv_iload jx jb d_Mod_settle_41 (lv_at jl 3 rfl) ?_
            refine lv_sipush (v := iZ 256) jx jb d_Mod_settle_43 (by decide) ?_
            refine z_icmp_ge (tgt := 77) jx jb d_Mod_settle_46 (by decide) ⟨⟨by omega, by omega⟩, ⟨by decide, by decide⟩⟩ (fun hc46 => ?_) (fun hc46 => ?_)
            ·
              obtain rfl : 256 = j := by omega
              have hte := tb_e (t := xs) hpr2 hsm2
              have hEe : E = tbE p2 o xs := by unfold tbE; rw [hq]
              have hgt2 : (sprd p2 o E t2 (2 ^ o)).1 = tbT p2 o xs := by unfold tbT; rw [hq]
              refine lv_iload_n jx jb d_Mod_settle_77 rfl (lv_at jl 1 rfl) ?_
              refine lv_iconst (v := iZ 1) jx jb d_Mod_settle_78 rfl ?_
              refine z_ishr jx jb d_Mod_settle_79 1 2 (rfl) (by omega) ?_
              refine lv_iload_n jx jb d_Mod_settle_80 rfl (lv_at jl 1 rfl) ?_
              refine lv_iconst (v := iZ 3) jx jb d_Mod_settle_81 rfl ?_
              refine z_ishr jx jb d_Mod_settle_82 3 8 (rfl) (by omega) ?_
              refine z_iadd jx jb d_Mod_settle_83 ?_
              refine lv_iconst (v := iZ 3) jx jb d_Mod_settle_84 rfl ?_
              refine z_iadd jx jb d_Mod_settle_85 ?_
              refine z_top (stp o : Int) (stp_i) ?_
              refine lv_istore (lv' := [(4, .int (iZ (stp o : Int))), (0, .ref r), (2, .int (iZ (2 ^ o))), (3, .int (iZ E))]) jx jb d_Mod_settle_86 jl (by decide) rfl (fun ls jl => ?_)
              refine lv_iconst (v := iZ 0) jx jb d_Mod_settle_88 rfl ?_
              refine lv_istore (lv' := [(5, .int (iZ 0)), (4, .int (iZ (stp o : Int))), (0, .ref r), (2, .int (iZ (2 ^ o))), (3, .int (iZ E))]) jx jb d_Mod_settle_89 jl (by decide) rfl (fun ls jl => ?_)
              refine lv_iconst (v := iZ 0) jx jb d_Mod_settle_91 rfl ?_
              refine lv_istore (lv' := [(6, .int (iZ 0)), (5, .int (iZ 0)), (4, .int (iZ (stp o : Int))), (0, .ref r), (2, .int (iZ (2 ^ o))), (3, .int (iZ E))]) jx jb d_Mod_settle_92 jl (by decide) rfl (fun ls jl => ?_)
              refine lv_iconst (v := iZ 0) jx jb d_Mod_settle_94 rfl ?_
              refine lv_istore (lv' := [(7, .int (iZ 0)), (6, .int (iZ 0)), (5, .int (iZ 0)), (4, .int (iZ (stp o : Int))), (0, .ref r), (2, .int (iZ (2 ^ o))), (3, .int (iZ E))]) jx jb d_Mod_settle_95 jl (by decide) rfl (fun ls jl => ?_)
              have hloop97 : ∀ (nF : Nat) (k : Nat) (s1 : Nat) (l1 : Int) (gt : Int) (t3 : Nat → Int), 2 ^ o - k < nF → ((k : Int) ≤ 2 ^ o) → (sprd p2 o E t2 k = (t3, s1, l1)) → (s1 ≤ 255 ∧ l1 = p2 s1 - gt ∧ 0 ≤ gt ∧ gt ≤ k) → ∀ (H : Heap) (locs : List Loc), va_P D classes [(r, .inr (4, [.ref ri, .int (iZ iL), .int (iZ go), .ref ro, .int (iZ oL), .ref rc, .int (iZ (o : Int)), .ref rp, .ref rs, .ref rd, .ref rk, .ref rh, .int (iZ bP), .int (iZ bR)])), (rp, .inl (cI, 256, .inl (zA p2))), (rs, .inl (cI, 4096, .inl (zA t3))), (rd, .inl (cI, 256, .inl (zA xd)))] H → va_D A [(r, .inr (4, [.ref ri, .int (iZ iL), .int (iZ go), .ref ro, .int (iZ oL), .ref rc, .int (iZ (o : Int)), .ref rp, .ref rs, .ref rd, .ref rk, .ref rh, .int (iZ bP), .int (iZ bR)])), (rp, .inl (cI, 256, .inl (zA p2))), (rs, .inl (cI, 4096, .inl (zA t3))), (rd, .inl (cI, 256, .inl (zA xd)))] → va_S A s.heap H locs → ∀ ls : Array Slot, lv_has ls 9 [(0, .ref r), (2, .int (iZ (2 ^ o))), (3, .int (iZ E)), (4, .int (iZ (stp o : Int))), (5, .int (iZ (s1 : Int))), (6, .int (iZ gt)), (7, .int (iZ (k : Int)))] → W p l e rm_M_settle s m args below meth c H locs 0 0 Q (F0 m 97 ls []) := by
                intro nF
                induction nF with
                | zero => intro k s1 l1 gt t3 hm; exact absurd hm (Nat.not_lt_zero _)
                | succ nF ih97 =>
                  intro k s1 l1 gt t3 hm hk hqs hs1 H locs jP jD jS ls jl
                  have hcl := cel_lt o k
                  refine lv_iload jx jb d_Mod_settle_97 (lv_at jl 6 rfl) ?_
                  refine lv_iload_n jx jb d_Mod_settle_99 rfl (lv_at jl 1 rfl) ?_
                  refine z_icmp_ge (tgt := 165) jx jb d_Mod_settle_100 (by decide) ⟨⟨by omega, by omega⟩, ⟨by omega, by omega⟩⟩ (fun hc100 => ?_) (fun hc100 => ?_)
                  ·
                    obtain rfl : 2 ^ o = k := by omega
                    exact jret _ _ (p2, t3) _ _ (⟨hg2, by rw [← hgt2, hqs]⟩) (jP.sub [0, 1, 2, 3] rfl) (jD.sub [0, 1, 2, 3] (by decide) rfl) jS d_Mod_settle_165
                  ·
                    refine lv_iload jx jb d_Mod_settle_103 (lv_at jl 6 rfl) ?_
                    refine lv_iload jx jb d_Mod_settle_105 (lv_at jl 3 rfl) ?_
                    have hst := stp_b ho.2
                    refine z_imul jx jb d_Mod_settle_107 ?_
                    refine lv_iload_n jx jb d_Mod_settle_108 rfl (lv_at jl 1 rfl) ?_
                    refine z_irem jx jb d_Mod_settle_109 (mul_b (by omega) (by omega) (by omega) (by omega)) ?_
                    refine z_top (cel o k : Int) (cel_m o k) ?_
                    refine lv_istore (lv' := [(8, .int (iZ (cel o k : Int))), (0, .ref r), (2, .int (iZ (2 ^ o))), (3, .int (iZ E)), (4, .int (iZ (stp o : Int))), (5, .int (iZ (s1 : Int))), (6, .int (iZ gt)), (7, .int (iZ (k : Int)))]) jx jb d_Mod_settle_110 jl (by decide) rfl (fun ls jl => ?_)
                    refine lv_iload jx jb d_Mod_settle_112 (lv_at jl 0 rfl) ?_
                    refine lv_iload_n jx jb d_Mod_settle_114 rfl (lv_at jl 3 rfl) ?_
                    refine z_icmp_ge (tgt := 159) jx jb d_Mod_settle_115 (by decide) ⟨⟨by omega, by omega⟩, ⟨by omega, by omega⟩⟩ (fun hc115 => ?_) (fun hc115 => ?_)
                    ·
                      refine lv_iinc (v := iZ ((k : Int) + 1)) (lv' := [(7, .int (iZ ((k : Int) + 1))), (8, .int (iZ (cel o k : Int))), (0, .ref r), (2, .int (iZ (2 ^ o))), (3, .int (iZ E)), (4, .int (iZ (stp o : Int))), (5, .int (iZ (s1 : Int))), (6, .int (iZ gt))]) jx jb d_Mod_settle_159 jl (k := 7) rfl (iZ_add _ _) (by decide) rfl (fun ls jl => ?_)
                      refine lv_goto (tgt := 97) jx jb d_Mod_settle_162 (by decide) ?_
                      exact ih97 (k + 1) s1 l1 gt t3 (by omega) (by omega) (sprd_n hqs (by omega)) (by omega) _ _ (jP.sub [0, 1, 2, 3] rfl) (jD.sub [0, 1, 2, 3] (by decide) rfl) jS _ (lv_sub jl [2, 3, 4, 5, 6, 7, 0] rfl)
                    ·
                      have hloop118 : ∀ (nF : Nat) (s2 : Nat) (g2 : Int), 255 - s2 < nF → (advR p2 (adv p2 256 s1 l1) s2 (p2 s2 - g2)) → (s2 ≤ 255 ∧ 0 ≤ g2 ∧ g2 ≤ k) → ∀ (H : Heap) (locs : List Loc), va_P D classes [(r, .inr (4, [.ref ri, .int (iZ iL), .int (iZ go), .ref ro, .int (iZ oL), .ref rc, .int (iZ (o : Int)), .ref rp, .ref rs, .ref rd, .ref rk, .ref rh, .int (iZ bP), .int (iZ bR)])), (rp, .inl (cI, 256, .inl (zA p2))), (rs, .inl (cI, 4096, .inl (zA t3))), (rd, .inl (cI, 256, .inl (zA xd)))] H → va_D A [(r, .inr (4, [.ref ri, .int (iZ iL), .int (iZ go), .ref ro, .int (iZ oL), .ref rc, .int (iZ (o : Int)), .ref rp, .ref rs, .ref rd, .ref rk, .ref rh, .int (iZ bP), .int (iZ bR)])), (rp, .inl (cI, 256, .inl (zA p2))), (rs, .inl (cI, 4096, .inl (zA t3))), (rd, .inl (cI, 256, .inl (zA xd)))] → va_S A s.heap H locs → ∀ ls : Array Slot, lv_has ls 9 [(0, .ref r), (2, .int (iZ (2 ^ o))), (3, .int (iZ E)), (4, .int (iZ (stp o : Int))), (5, .int (iZ (s2 : Int))), (6, .int (iZ g2)), (7, .int (iZ (k : Int))), (8, .int (iZ (cel o k : Int)))] → W p l e rm_M_settle s m args below meth c H locs 0 0 Q (F0 m 118 ls []) := by
                        intro nF
                        induction nF with
                        | zero => intro s2 g2 hm; exact absurd hm (Nat.not_lt_zero _)
                        | succ nF ih118 =>
                          intro s2 g2 hm hsc hs2 H locs jP jD jS ls jl
                          have hps := hpr2 s2 (by omega)
                          refine lv_iload jx jb d_Mod_settle_118 (lv_at jl 4 rfl) ?_
                          refine lv_sipush (v := iZ 255) jx jb d_Mod_settle_120 (by decide) ?_
                          refine z_icmp_ge (tgt := 147) jx jb d_Mod_settle_123 (by decide) ⟨⟨by omega, by omega⟩, ⟨by decide, by decide⟩⟩ (fun hc123 => ?_) (fun hc123 => ?_)
                          ·
                            have hT := advR_e hsc (by omega)
                            refine lv_aload_n jx jb d_Mod_settle_147 rfl (lv_at jl 0 rfl) ?_
                            refine va_get (D := D) (ci := 4) (v := .ref rs) (C := R_Mod) (T := F_Mod) (N := 14) jx jb jts i_Mod jown jK.1 jP 0 rfl rfl 8 (by decide) (jts _ fl_Mod_22) (fun _ h9 => h9) rfl d_Mod_settle_148 ?_
                            refine lv_iload jx jb d_Mod_settle_151 (lv_at jl 7 rfl) ?_
                            refine lv_iload jx jb d_Mod_settle_153 (lv_at jl 4 rfl) ?_
                            refine z_iast jx jb jK.1 jP jD jS 2 0 rfl rfl (cel o k) (by omega) d_Mod_settle_155 (fun H locs jP jD jS => ?_)
                            have jP : va_P D classes [(r, .inr (4, [.ref ri, .int (iZ iL), .int (iZ go), .ref ro, .int (iZ oL), .ref rc, .int (iZ (o : Int)), .ref rp, .ref rs, .ref rd, .ref rk, .ref rh, .int (iZ bP), .int (iZ bR)])), (rp, .inl (cI, 256, .inl (zA p2))), (rs, .inl (cI, 4096, .inl (zA (zu t3 (cel o k) (s2 : Int))))), (rd, .inl (cI, 256, .inl (zA xd)))] H := jP
                            have jD : va_D A [(r, .inr (4, [.ref ri, .int (iZ iL), .int (iZ go), .ref ro, .int (iZ oL), .ref rc, .int (iZ (o : Int)), .ref rp, .ref rs, .ref rd, .ref rk, .ref rh, .int (iZ bP), .int (iZ bR)])), (rp, .inl (cI, 256, .inl (zA p2))), (rs, .inl (cI, 4096, .inl (zA (zu t3 (cel o k) (s2 : Int))))), (rd, .inl (cI, 256, .inl (zA xd)))] := jD
                            refine lv_iinc (v := iZ (g2 + 1)) (lv' := [(6, .int (iZ (g2 + 1))), (0, .ref r), (2, .int (iZ (2 ^ o))), (3, .int (iZ E)), (4, .int (iZ (stp o : Int))), (5, .int (iZ (s2 : Int))), (7, .int (iZ (k : Int))), (8, .int (iZ (cel o k : Int)))]) jx jb d_Mod_settle_156 jl (k := 5) rfl (iZ_add _ _) (by decide) rfl (fun ls jl => ?_)
                            refine lv_iinc (v := iZ ((k : Int) + 1)) (lv' := [(7, .int (iZ ((k : Int) + 1))), (6, .int (iZ (g2 + 1))), (0, .ref r), (2, .int (iZ (2 ^ o))), (3, .int (iZ E)), (4, .int (iZ (stp o : Int))), (5, .int (iZ (s2 : Int))), (8, .int (iZ (cel o k : Int)))]) jx jb d_Mod_settle_159 jl (k := 6) rfl (iZ_add _ _) (by decide) rfl (fun ls jl => ?_)
                            refine lv_goto (tgt := 97) jx jb d_Mod_settle_162 (by decide) ?_
                            exact ih97 (k + 1) s2 (p2 s2 - g2 - 1) (g2 + 1) (zu t3 (cel o k) (s2 : Int)) (by omega) (by omega) (sprd_s hqs (by omega) hT) (by omega) _ _ (jP.sub [0, 1, 2, 3] rfl) (jD.sub [0, 1, 2, 3] (by decide) rfl) jS _ (lv_sub jl [2, 3, 4, 5, 6, 1, 0] rfl)
                          ·
                            refine lv_iload jx jb d_Mod_settle_126 (lv_at jl 5 rfl) ?_
                            refine lv_aload_n jx jb d_Mod_settle_128 rfl (lv_at jl 0 rfl) ?_
                            refine va_get (D := D) (ci := 4) (v := .ref rp) (C := R_Mod) (T := F_Mod) (N := 14) jx jb jts i_Mod jown jK.1 jP 0 rfl rfl 7 (by decide) (jts _ fl_Mod_19) (fun _ h9 => h9) rfl d_Mod_settle_129 ?_
                            refine lv_iload jx jb d_Mod_settle_132 (lv_at jl 4 rfl) ?_
                            refine z_iald jx jb jK.1 jP 1 0 rfl rfl s2 (by omega) d_Mod_settle_134 ?_
                            refine z_icmp_lt (tgt := 147) jx jb d_Mod_settle_135 (by decide) ⟨⟨by omega, by omega⟩, ⟨by omega, by omega⟩⟩ (fun hc135 => ?_) (fun hc135 => ?_)
                            ·
                              have hT := advR_e hsc (by omega)
                              refine lv_aload_n jx jb d_Mod_settle_147 rfl (lv_at jl 0 rfl) ?_
                              refine va_get (D := D) (ci := 4) (v := .ref rs) (C := R_Mod) (T := F_Mod) (N := 14) jx jb jts i_Mod jown jK.1 jP 0 rfl rfl 8 (by decide) (jts _ fl_Mod_22) (fun _ h9 => h9) rfl d_Mod_settle_148 ?_
                              refine lv_iload jx jb d_Mod_settle_151 (lv_at jl 7 rfl) ?_
                              refine lv_iload jx jb d_Mod_settle_153 (lv_at jl 4 rfl) ?_
                              refine z_iast jx jb jK.1 jP jD jS 2 0 rfl rfl (cel o k) (by omega) d_Mod_settle_155 (fun H locs jP jD jS => ?_)
                              have jP : va_P D classes [(r, .inr (4, [.ref ri, .int (iZ iL), .int (iZ go), .ref ro, .int (iZ oL), .ref rc, .int (iZ (o : Int)), .ref rp, .ref rs, .ref rd, .ref rk, .ref rh, .int (iZ bP), .int (iZ bR)])), (rp, .inl (cI, 256, .inl (zA p2))), (rs, .inl (cI, 4096, .inl (zA (zu t3 (cel o k) (s2 : Int))))), (rd, .inl (cI, 256, .inl (zA xd)))] H := jP
                              have jD : va_D A [(r, .inr (4, [.ref ri, .int (iZ iL), .int (iZ go), .ref ro, .int (iZ oL), .ref rc, .int (iZ (o : Int)), .ref rp, .ref rs, .ref rd, .ref rk, .ref rh, .int (iZ bP), .int (iZ bR)])), (rp, .inl (cI, 256, .inl (zA p2))), (rs, .inl (cI, 4096, .inl (zA (zu t3 (cel o k) (s2 : Int))))), (rd, .inl (cI, 256, .inl (zA xd)))] := jD
                              refine lv_iinc (v := iZ (g2 + 1)) (lv' := [(6, .int (iZ (g2 + 1))), (0, .ref r), (2, .int (iZ (2 ^ o))), (3, .int (iZ E)), (4, .int (iZ (stp o : Int))), (5, .int (iZ (s2 : Int))), (7, .int (iZ (k : Int))), (8, .int (iZ (cel o k : Int)))]) jx jb d_Mod_settle_156 jl (k := 5) rfl (iZ_add _ _) (by decide) rfl (fun ls jl => ?_)
                              refine lv_iinc (v := iZ ((k : Int) + 1)) (lv' := [(7, .int (iZ ((k : Int) + 1))), (6, .int (iZ (g2 + 1))), (0, .ref r), (2, .int (iZ (2 ^ o))), (3, .int (iZ E)), (4, .int (iZ (stp o : Int))), (5, .int (iZ (s2 : Int))), (8, .int (iZ (cel o k : Int)))]) jx jb d_Mod_settle_159 jl (k := 6) rfl (iZ_add _ _) (by decide) rfl (fun ls jl => ?_)
                              refine lv_goto (tgt := 97) jx jb d_Mod_settle_162 (by decide) ?_
                              exact ih97 (k + 1) s2 (p2 s2 - g2 - 1) (g2 + 1) (zu t3 (cel o k) (s2 : Int)) (by omega) (by omega) (sprd_s hqs (by omega) hT) (by omega) _ _ (jP.sub [0, 1, 2, 3] rfl) (jD.sub [0, 1, 2, 3] (by decide) rfl) jS _ (lv_sub jl [2, 3, 4, 5, 6, 1, 0] rfl)
                            ·
                              refine lv_iinc (v := iZ ((s2 : Int) + 1)) (lv' := [(5, .int (iZ ((s2 : Int) + 1))), (0, .ref r), (2, .int (iZ (2 ^ o))), (3, .int (iZ E)), (4, .int (iZ (stp o : Int))), (6, .int (iZ g2)), (7, .int (iZ (k : Int))), (8, .int (iZ (cel o k : Int)))]) jx jb d_Mod_settle_138 jl (k := 4) rfl (iZ_add _ _) (by decide) rfl (fun ls jl => ?_)
                              refine lv_iconst (v := iZ 0) jx jb d_Mod_settle_141 rfl ?_
                              refine lv_istore (lv' := [(6, .int (iZ 0)), (5, .int (iZ ((s2 : Int) + 1))), (0, .ref r), (2, .int (iZ (2 ^ o))), (3, .int (iZ E)), (4, .int (iZ (stp o : Int))), (7, .int (iZ (k : Int))), (8, .int (iZ (cel o k : Int)))]) jx jb d_Mod_settle_142 jl (by decide) rfl (fun ls jl => ?_)
                              refine lv_goto (tgt := 118) jx jb d_Mod_settle_144 (by decide) ?_
                              exact ih118 (s2 + 1) 0 (by omega) (by rw [Int.sub_zero]; exact advR_s hsc (by omega)) (by omega) _ _ (jP.sub [0, 1, 2, 3] rfl) (jD.sub [0, 1, 2, 3] (by decide) rfl) jS _ (lv_sub jl [2, 3, 4, 5, 1, 0, 6, 7] rfl)
                      exact hloop118 ((255 - s1) + 1) s1 gt (Nat.lt_succ_self _) (by rw [← hs1.2.1]; exact advR_0) (by omega) _ _ (jP.sub [0, 1, 2, 3] rfl) (jD.sub [0, 1, 2, 3] (by decide) rfl) jS _ (lv_sub jl [1, 2, 3, 4, 5, 6, 7, 0] rfl)
              exact hloop97 ((2 ^ o - 0) + 1) 0 0 (p2 0) 0 t2 (Nat.lt_succ_self _) (by first | assumption | omega) (rfl) (by refine ⟨by omega, ?_, by omega, by omega⟩; omega) _ _ (jP.sub [0, 1, 2, 3] rfl) (jD.sub [0, 1, 2, 3] (by decide) rfl) jS _ (lv_sub jl [4, 5, 6, 3, 2, 1, 0] rfl)
            ·
              refine lv_aload_n jx jb d_Mod_settle_49 rfl (lv_at jl 0 rfl) ?_
              refine va_get (D := D) (ci := 4) (v := .ref rp) (C := R_Mod) (T := F_Mod) (N := 14) jx jb jts i_Mod jown jK.1 jP 0 rfl rfl 7 (by decide) (jts _ fl_Mod_19) (fun _ h9 => h9) rfl d_Mod_settle_50 ?_
              refine lv_iload jx jb d_Mod_settle_53 (lv_at jl 3 rfl) ?_
              refine z_iald jx jb jK.1 jP 1 0 rfl rfl j (by omega) d_Mod_settle_55 ?_
              refine lv_iconst (v := iZ (-1)) jx jb d_Mod_settle_56 rfl ?_
              have hpj := hpr2 j (by omega)
              have hfit := cum_fit hpr2 (y := j) (by omega)
              refine z_icmp_ne (tgt := 71) jx jb d_Mod_settle_57 (by decide) ⟨⟨by omega, by omega⟩, ⟨by decide, by decide⟩⟩ (fun hc57 => ?_) (fun hc57 => ?_)
              ·
                refine lv_iinc (v := iZ ((j : Int) + 1)) (lv' := [(4, .int (iZ ((j : Int) + 1))), (0, .ref r), (2, .int (iZ (2 ^ o))), (3, .int (iZ E))]) jx jb d_Mod_settle_71 jl (k := 3) rfl (iZ_add _ _) (by decide) rfl (fun ls jl => ?_)
                refine lv_goto (tgt := 41) jx jb d_Mod_settle_74 (by decide) ?_
                exact ih41 (j + 1) E t2 (by omega) (by first | assumption | omega) (by first | exact sngl_n hq hc57 | exact sngl_s hq hc57) _ _ (jP.sub [0, 1, 2, 3] rfl) (jD.sub [0, 1, 2, 3] (by decide) rfl) jS _ (lv_sub jl [1, 2, 3, 0] rfl)
              ·
                have hw1 : wgt (p2 j) = 1 := if_pos hc57
                refine lv_iinc (v := iZ (E - 1)) (lv' := [(3, .int (iZ (E - 1))), (0, .ref r), (2, .int (iZ (2 ^ o))), (4, .int (iZ (j : Int)))]) jx jb d_Mod_settle_60 jl (k := 2) rfl (by rw [show (E - 1) = E + (-1) from rfl]; exact iZ_add _ _) (by decide) rfl (fun ls jl => ?_)
                refine lv_aload_n jx jb d_Mod_settle_63 rfl (lv_at jl 1 rfl) ?_
                refine va_get (D := D) (ci := 4) (v := .ref rs) (C := R_Mod) (T := F_Mod) (N := 14) jx jb jts i_Mod jown jK.1 jP 0 rfl rfl 8 (by decide) (jts _ fl_Mod_22) (fun _ h9 => h9) rfl d_Mod_settle_64 ?_
                refine lv_iload_n jx jb d_Mod_settle_67 rfl (lv_at jl 0 rfl) ?_
                refine lv_iload jx jb d_Mod_settle_68 (lv_at jl 3 rfl) ?_
                refine z_iast jx jb jK.1 jP jD jS 2 0 rfl rfl ((E - 1).toNat) (by omega) d_Mod_settle_70 (fun H locs jP jD jS => ?_)
                have jP : va_P D classes [(r, .inr (4, [.ref ri, .int (iZ iL), .int (iZ go), .ref ro, .int (iZ oL), .ref rc, .int (iZ (o : Int)), .ref rp, .ref rs, .ref rd, .ref rk, .ref rh, .int (iZ bP), .int (iZ bR)])), (rp, .inl (cI, 256, .inl (zA p2))), (rs, .inl (cI, 4096, .inl (zA (zu t2 ((E - 1).toNat) (j : Int))))), (rd, .inl (cI, 256, .inl (zA xd)))] H := jP
                have jD : va_D A [(r, .inr (4, [.ref ri, .int (iZ iL), .int (iZ go), .ref ro, .int (iZ oL), .ref rc, .int (iZ (o : Int)), .ref rp, .ref rs, .ref rd, .ref rk, .ref rh, .int (iZ bP), .int (iZ bR)])), (rp, .inl (cI, 256, .inl (zA p2))), (rs, .inl (cI, 4096, .inl (zA (zu t2 ((E - 1).toNat) (j : Int))))), (rd, .inl (cI, 256, .inl (zA xd)))] := jD
                refine lv_iinc (v := iZ ((j : Int) + 1)) (lv' := [(4, .int (iZ ((j : Int) + 1))), (3, .int (iZ (E - 1))), (0, .ref r), (2, .int (iZ (2 ^ o)))]) jx jb d_Mod_settle_71 jl (k := 3) rfl (iZ_add _ _) (by decide) rfl (fun ls jl => ?_)
                refine lv_goto (tgt := 41) jx jb d_Mod_settle_74 (by decide) ?_
                exact ih41 (j + 1) (E - 1) (zu t2 ((E - 1).toNat) (j : Int)) (by omega) (by first | assumption | omega) (by first | exact sngl_n hq hc57 | exact sngl_s hq hc57) _ _ (jP.sub [0, 1, 2, 3] rfl) (jD.sub [0, 1, 2, 3] (by decide) rfl) jS _ (lv_sub jl [2, 3, 1, 0] rfl)
        exact hloop41 ((256 - 0) + 1) 0 (2 ^ o) xs (Nat.lt_succ_self _) (by first | assumption | omega) (rfl) _ _ (jP.sub [0, 1, 2, 3] rfl) (jD.sub [0, 1, 2, 3] (by decide) rfl) jS _ (lv_sub jl [2, 4, 1, 0] rfl)
      ·
        refine lv_aload_n jx jb d_Mod_settle_18 rfl (lv_at jl 0 rfl) ?_
        refine va_get (D := D) (ci := 4) (v := .ref rp) (C := R_Mod) (T := F_Mod) (N := 14) jx jb jts i_Mod jown jK.1 jP 0 rfl rfl 7 (by decide) (jts _ fl_Mod_19) (fun _ h9 => h9) rfl d_Mod_settle_19 ?_
        refine lv_iload_n jx jb d_Mod_settle_22 rfl (lv_at jl 3 rfl) ?_
        refine lv_aload_n jx jb d_Mod_settle_23 rfl (lv_at jl 0 rfl) ?_
        refine va_get (D := D) (ci := 4) (v := .ref rd) (C := R_Mod) (T := F_Mod) (N := 14) jx jb jts i_Mod jown jK.1 jP 0 rfl rfl 9 (by decide) (jts _ fl_Mod_25) (fun _ h9 => h9) rfl d_Mod_settle_24 ?_
        refine lv_iload_n jx jb d_Mod_settle_27 rfl (lv_at jl 3 rfl) ?_
        refine z_iald jx jb jK.1 jP 3 0 rfl rfl i (by omega) d_Mod_settle_28 ?_
        refine z_iast jx jb jK.1 jP jD jS 1 0 rfl rfl i (by omega) d_Mod_settle_29 (fun H locs jP jD jS => ?_)
        have jP : va_P D classes [(r, .inr (4, [.ref ri, .int (iZ iL), .int (iZ go), .ref ro, .int (iZ oL), .ref rc, .int (iZ (o : Int)), .ref rp, .ref rs, .ref rd, .ref rk, .ref rh, .int (iZ bP), .int (iZ bR)])), (rp, .inl (cI, 256, .inl (zA (zu p2 i (xd i))))), (rs, .inl (cI, 4096, .inl (zA xs))), (rd, .inl (cI, 256, .inl (zA xd)))] H := jP
        have jD : va_D A [(r, .inr (4, [.ref ri, .int (iZ iL), .int (iZ go), .ref ro, .int (iZ oL), .ref rc, .int (iZ (o : Int)), .ref rp, .ref rs, .ref rd, .ref rk, .ref rh, .int (iZ bP), .int (iZ bR)])), (rp, .inl (cI, 256, .inl (zA (zu p2 i (xd i))))), (rs, .inl (cI, 4096, .inl (zA xs))), (rd, .inl (cI, 256, .inl (zA xd)))] := jD
        refine lv_iinc (v := iZ ((i : Int) + 1)) (lv' := [(3, .int (iZ ((i : Int) + 1))), (0, .ref r), (1, .int (iZ (o : Int))), (2, .int (iZ (2 ^ o)))]) jx jb d_Mod_settle_30 jl (k := 3) rfl (iZ_add _ _) (by decide) rfl (fun ls jl => ?_)
        refine lv_goto (tgt := 11) jx jb d_Mod_settle_33 (by decide) ?_
        exact ih11 (i + 1) (zu p2 i (xd i)) (by omega) (by first | assumption | omega) (zu_all hg rfl) _ _ (jP.sub [0, 1, 2, 3] rfl) (jD.sub [0, 1, 2, 3] (by decide) rfl) jS _ (lv_sub jl [1, 2, 3, 0] rfl)
  exact hloop11 ((256 - 0) + 1) 0 xp (Nat.lt_succ_self _) (by first | assumption | omega) (fun k h => absurd h (by omega)) _ _ (jP.sub [0, 1, 2, 3] rfl) (jD.sub [0, 1, 2, 3] (by decide) rfl) jS _ (lv_sub jl [2, 3, 1, 0] rfl)
