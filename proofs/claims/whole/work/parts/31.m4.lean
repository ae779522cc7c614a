theorem fl_Mod_25 : Cond.fieldLink R_Mod 25 "StateCoderModel" "draft" "[I" ∈ zT := zT_of (List.mem_of_getElem? (i := 491) (by decide +kernel)) rfl
theorem d_Mod_write_0 : decode b_Mod_write 0 = .ok (.iload_n 3, 1) := by decide +kernel
theorem d_Mod_write_1 : decode b_Mod_write 1 = .ok (.iconst 1, 1) := by decide +kernel
theorem d_Mod_write_2 : decode b_Mod_write 2 = .ok (.if_icmp .lt 21, 3) := by decide +kernel
theorem d_Mod_write_5 : decode b_Mod_write 5 = .ok (.iload_n 3, 1) := by decide +kernel
theorem d_Mod_write_6 : decode b_Mod_write 6 = .ok (.bipush 8, 2) := by decide +kernel
theorem d_Mod_write_8 : decode b_Mod_write 8 = .ok (.if_icmp .gt 15, 3) := by decide +kernel
theorem d_Mod_write_11 : decode b_Mod_write 11 = .ok (.aload_n 0, 1) := by decide +kernel
theorem d_Mod_write_12 : decode b_Mod_write 12 = .ok (.getfield 35, 3) := by decide +kernel
theorem d_Mod_write_15 : decode b_Mod_write 15 = .ok (.iload_n 3, 1) := by decide +kernel
theorem d_Mod_write_16 : decode b_Mod_write 16 = .ok (.iadd, 1) := by decide +kernel
theorem d_Mod_write_17 : decode b_Mod_write 17 = .ok (.sipush 6000, 3) := by decide +kernel
theorem d_Mod_write_20 : decode b_Mod_write 20 = .ok (.if_icmp .le 5, 3) := by decide +kernel
theorem d_Mod_write_23 : decode b_Mod_write 23 = .ok (.iconst 0, 1) := by decide +kernel
theorem d_Mod_write_24 : decode b_Mod_write 24 = .ok (.ireturn, 1) := by decide +kernel
theorem d_Mod_write_25 : decode b_Mod_write 25 = .ok (.iload_n 3, 1) := by decide +kernel
theorem d_Mod_write_26 : decode b_Mod_write 26 = .ok (.iconst 1, 1) := by decide +kernel
theorem d_Mod_write_27 : decode b_Mod_write 27 = .ok (.isub, 1) := by decide +kernel
theorem d_Mod_write_28 : decode b_Mod_write 28 = .ok (.istore 4, 2) := by decide +kernel
theorem d_Mod_write_30 : decode b_Mod_write 30 = .ok (.iload 4, 2) := by decide +kernel
theorem d_Mod_write_32 : decode b_Mod_write 32 = .ok (.ifCond .lt 40, 3) := by decide +kernel
theorem d_Mod_write_35 : decode b_Mod_write 35 = .ok (.aload_n 0, 1) := by decide +kernel
theorem d_Mod_write_36 : decode b_Mod_write 36 = .ok (.getfield 7, 3) := by decide +kernel
theorem d_Mod_write_39 : decode b_Mod_write 39 = .ok (.aload_n 0, 1) := by decide +kernel
theorem d_Mod_write_40 : decode b_Mod_write 40 = .ok (.getfield 35, 3) := by decide +kernel
theorem d_Mod_write_43 : decode b_Mod_write 43 = .ok (.lload_n 1, 1) := by decide +kernel
theorem d_Mod_write_44 : decode b_Mod_write 44 = .ok (.bipush 8, 2) := by decide +kernel
theorem d_Mod_write_46 : decode b_Mod_write 46 = .ok (.iload 4, 2) := by decide +kernel
theorem d_Mod_write_48 : decode b_Mod_write 48 = .ok (.imul, 1) := by decide +kernel
theorem d_Mod_write_49 : decode b_Mod_write 49 = .ok (.lushr, 1) := by decide +kernel
theorem d_Mod_write_50 : decode b_Mod_write 50 = .ok (.l2i, 1) := by decide +kernel
theorem d_Mod_write_51 : decode b_Mod_write 51 = .ok (.sipush 255, 3) := by decide +kernel
theorem d_Mod_write_54 : decode b_Mod_write 54 = .ok (.iand, 1) := by decide +kernel
theorem d_Mod_write_55 : decode b_Mod_write 55 = .ok (.iastore, 1) := by decide +kernel
theorem d_Mod_write_56 : decode b_Mod_write 56 = .ok (.aload_n 0, 1) := by decide +kernel
theorem d_Mod_write_57 : decode b_Mod_write 57 = .ok (.dup, 1) := by decide +kernel
theorem d_Mod_write_58 : decode b_Mod_write 58 = .ok (.getfield 35, 3) := by decide +kernel
theorem d_Mod_write_61 : decode b_Mod_write 61 = .ok (.iconst 1, 1) := by decide +kernel
theorem d_Mod_write_62 : decode b_Mod_write 62 = .ok (.iadd, 1) := by decide +kernel
theorem d_Mod_write_63 : decode b_Mod_write 63 = .ok (.putfield 35, 3) := by decide +kernel
theorem d_Mod_write_66 : decode b_Mod_write 66 = .ok (.iinc 4 (-1), 3) := by decide +kernel
theorem d_Mod_write_69 : decode b_Mod_write 69 = .ok (.goto (-39), 3) := by decide +kernel
theorem d_Mod_write_72 : decode b_Mod_write 72 = .ok (.iconst 1, 1) := by decide +kernel
theorem d_Mod_write_73 : decode b_Mod_write 73 = .ok (.ireturn, 1) := by decide +kernel
theorem d_Mod_turn_0 : decode b_Mod_turn 0 = .ok (.iconst 0, 1) := by decide +kernel
theorem d_Mod_turn_1 : decode b_Mod_turn 1 = .ok (.istore_n 1, 1) := by decide +kernel
theorem d_Mod_turn_2 : decode b_Mod_turn 2 = .ok (.iload_n 1, 1) := by decide +kernel
theorem d_Mod_turn_3 : decode b_Mod_turn 3 = .ok (.aload_n 0, 1) := by decide +kernel
theorem d_Mod_turn_4 : decode b_Mod_turn 4 = .ok (.getfield 39, 3) := by decide +kernel
theorem d_Mod_turn_7 : decode b_Mod_turn 7 = .ok (.if_icmp .ge 21, 3) := by decide +kernel
theorem d_Mod_turn_10 : decode b_Mod_turn 10 = .ok (.aload_n 0, 1) := by decide +kernel
theorem d_Mod_turn_11 : decode b_Mod_turn 11 = .ok (.getfield 7, 3) := by decide +kernel
theorem d_Mod_turn_14 : decode b_Mod_turn 14 = .ok (.iload_n 1, 1) := by decide +kernel
theorem d_Mod_turn_15 : decode b_Mod_turn 15 = .ok (.aload_n 0, 1) := by decide +kernel
theorem d_Mod_turn_16 : decode b_Mod_turn 16 = .ok (.getfield 13, 3) := by decide +kernel
theorem d_Mod_turn_19 : decode b_Mod_turn 19 = .ok (.iload_n 1, 1) := by decide +kernel
theorem d_Mod_turn_20 : decode b_Mod_turn 20 = .ok (.iaload, 1) := by decide +kernel
theorem d_Mod_turn_21 : decode b_Mod_turn 21 = .ok (.iastore, 1) := by decide +kernel
theorem d_Mod_turn_22 : decode b_Mod_turn 22 = .ok (.iinc 1 1, 3) := by decide +kernel
theorem d_Mod_turn_25 : decode b_Mod_turn 25 = .ok (.goto (-23), 3) := by decide +kernel
theorem d_Mod_turn_28 : decode b_Mod_turn 28 = .ok (.aload_n 0, 1) := by decide +kernel
theorem d_Mod_turn_29 : decode b_Mod_turn 29 = .ok (.aload_n 0, 1) := by decide +kernel
theorem d_Mod_turn_30 : decode b_Mod_turn 30 = .ok (.getfield 39, 3) := by decide +kernel
theorem d_Mod_turn_33 : decode b_Mod_turn 33 = .ok (.putfield 35, 3) := by decide +kernel
theorem d_Mod_turn_36 : decode b_Mod_turn 36 = .ok (.aload_n 0, 1) := by decide +kernel
theorem d_Mod_turn_37 : decode b_Mod_turn 37 = .ok (.iconst 0, 1) := by decide +kernel
theorem d_Mod_turn_38 : decode b_Mod_turn 38 = .ok (.putfield 42, 3) := by decide +kernel
theorem d_Mod_turn_41 : decode b_Mod_turn 41 = .ok (.return_, 1) := by decide +kernel
theorem d_Mod_clear_0 : decode b_Mod_clear 0 = .ok (.aload_n 0, 1) := by decide +kernel
theorem d_Mod_clear_1 : decode b_Mod_clear 1 = .ok (.iconst 0, 1) := by decide +kernel
theorem d_Mod_clear_2 : decode b_Mod_clear 2 = .ok (.putfield 35, 3) := by decide +kernel
theorem d_Mod_clear_5 : decode b_Mod_clear 5 = .ok (.aload_n 0, 1) := by decide +kernel
theorem d_Mod_clear_6 : decode b_Mod_clear 6 = .ok (.iconst 0, 1) := by decide +kernel
theorem d_Mod_clear_7 : decode b_Mod_clear 7 = .ok (.putfield 42, 3) := by decide +kernel
theorem d_Mod_clear_10 : decode b_Mod_clear 10 = .ok (.iconst 0, 1) := by decide +kernel
theorem d_Mod_clear_11 : decode b_Mod_clear 11 = .ok (.istore_n 1, 1) := by decide +kernel
theorem d_Mod_clear_12 : decode b_Mod_clear 12 = .ok (.iload_n 1, 1) := by decide +kernel
theorem d_Mod_clear_13 : decode b_Mod_clear 13 = .ok (.sipush 256, 3) := by decide +kernel
theorem d_Mod_clear_16 : decode b_Mod_clear 16 = .ok (.if_icmp .ge 16, 3) := by decide +kernel
theorem d_Mod_clear_19 : decode b_Mod_clear 19 = .ok (.aload_n 0, 1) := by decide +kernel
theorem d_Mod_clear_20 : decode b_Mod_clear 20 = .ok (.getfield 16, 3) := by decide +kernel
theorem d_Mod_clear_23 : decode b_Mod_clear 23 = .ok (.iload_n 1, 1) := by decide +kernel
theorem d_Mod_clear_24 : decode b_Mod_clear 24 = .ok (.iconst 0, 1) := by decide +kernel
theorem d_Mod_clear_25 : decode b_Mod_clear 25 = .ok (.iastore, 1) := by decide +kernel
theorem d_Mod_clear_26 : decode b_Mod_clear 26 = .ok (.iinc 1 1, 3) := by decide +kernel
theorem d_Mod_clear_29 : decode b_Mod_clear 29 = .ok (.goto (-17), 3) := by decide +kernel
theorem d_Mod_clear_32 : decode b_Mod_clear 32 = .ok (.return_, 1) := by decide +kernel
theorem d_Mod_countAll_0 : decode b_Mod_countAll 0 = .ok (.iconst 0, 1) := by decide +kernel
theorem d_Mod_countAll_1 : decode b_Mod_countAll 1 = .ok (.istore_n 1, 1) := by decide +kernel
theorem d_Mod_countAll_2 : decode b_Mod_countAll 2 = .ok (.iload_n 1, 1) := by decide +kernel
theorem d_Mod_countAll_3 : decode b_Mod_countAll 3 = .ok (.sipush 256, 3) := by decide +kernel
theorem d_Mod_countAll_6 : decode b_Mod_countAll 6 = .ok (.if_icmp .ge 16, 3) := by decide +kernel
theorem d_Mod_countAll_9 : decode b_Mod_countAll 9 = .ok (.aload_n 0, 1) := by decide +kernel
theorem d_Mod_countAll_10 : decode b_Mod_countAll 10 = .ok (.getfield 16, 3) := by decide +kernel
theorem d_Mod_countAll_13 : decode b_Mod_countAll 13 = .ok (.iload_n 1, 1) := by decide +kernel
theorem d_Mod_countAll_14 : decode b_Mod_countAll 14 = .ok (.iconst 0, 1) := by decide +kernel
theorem d_Mod_countAll_15 : decode b_Mod_countAll 15 = .ok (.iastore, 1) := by decide +kernel
theorem d_Mod_countAll_16 : decode b_Mod_countAll 16 = .ok (.iinc 1 1, 3) := by decide +kernel
theorem d_Mod_countAll_19 : decode b_Mod_countAll 19 = .ok (.goto (-17), 3) := by decide +kernel
theorem d_Mod_countAll_22 : decode b_Mod_countAll 22 = .ok (.aload_n 0, 1) := by decide +kernel
theorem d_Mod_countAll_23 : decode b_Mod_countAll 23 = .ok (.getfield 42, 3) := by decide +kernel
theorem d_Mod_countAll_26 : decode b_Mod_countAll 26 = .ok (.istore_n 1, 1) := by decide +kernel
theorem d_Mod_countAll_27 : decode b_Mod_countAll 27 = .ok (.iload_n 1, 1) := by decide +kernel
theorem d_Mod_countAll_28 : decode b_Mod_countAll 28 = .ok (.aload_n 0, 1) := by decide +kernel
theorem d_Mod_countAll_29 : decode b_Mod_countAll 29 = .ok (.getfield 35, 3) := by decide +kernel
theorem d_Mod_countAll_32 : decode b_Mod_countAll 32 = .ok (.if_icmp .ge 24, 3) := by decide +kernel
theorem d_Mod_countAll_35 : decode b_Mod_countAll 35 = .ok (.aload_n 0, 1) := by decide +kernel
theorem d_Mod_countAll_36 : decode b_Mod_countAll 36 = .ok (.getfield 16, 3) := by decide +kernel
theorem d_Mod_countAll_39 : decode b_Mod_countAll 39 = .ok (.aload_n 0, 1) := by decide +kernel
theorem d_Mod_countAll_40 : decode b_Mod_countAll 40 = .ok (.getfield 7, 3) := by decide +kernel
theorem d_Mod_countAll_43 : decode b_Mod_countAll 43 = .ok (.iload_n 1, 1) := by decide +kernel
theorem d_Mod_countAll_44 : decode b_Mod_countAll 44 = .ok (.iaload, 1) := by decide +kernel
theorem d_Mod_countAll_45 : decode b_Mod_countAll 45 = .ok (.dup2, 1) := by decide +kernel
theorem d_Mod_countAll_46 : decode b_Mod_countAll 46 = .ok (.iaload, 1) := by decide +kernel
theorem d_Mod_countAll_47 : decode b_Mod_countAll 47 = .ok (.iconst 1, 1) := by decide +kernel
theorem d_Mod_countAll_48 : decode b_Mod_countAll 48 = .ok (.iadd, 1) := by decide +kernel
theorem d_Mod_countAll_49 : decode b_Mod_countAll 49 = .ok (.iastore, 1) := by decide +kernel
theorem d_Mod_countAll_50 : decode b_Mod_countAll 50 = .ok (.iinc 1 1, 3) := by decide +kernel
theorem d_Mod_countAll_53 : decode b_Mod_countAll 53 = .ok (.goto (-26), 3) := by decide +kernel
theorem d_Mod_countAll_56 : decode b_Mod_countAll 56 = .ok (.aload_n 0, 1) := by decide +kernel
theorem d_Mod_countAll_57 : decode b_Mod_countAll 57 = .ok (.getfield 35, 3) := by decide +kernel
theorem d_Mod_countAll_60 : decode b_Mod_countAll 60 = .ok (.aload_n 0, 1) := by decide +kernel
theorem d_Mod_countAll_61 : decode b_Mod_countAll 61 = .ok (.getfield 42, 3) := by decide +kernel
theorem d_Mod_countAll_64 : decode b_Mod_countAll 64 = .ok (.isub, 1) := by decide +kernel
theorem d_Mod_countAll_65 : decode b_Mod_countAll 65 = .ok (.ireturn, 1) := by decide +kernel
theorem d_Mod_drafted_0 : decode b_Mod_drafted 0 = .ok (.iconst 0, 1) := by decide +kernel
theorem d_Mod_drafted_1 : decode b_Mod_drafted 1 = .ok (.istore_n 1, 1) := by decide +kernel
theorem d_Mod_drafted_2 : decode b_Mod_drafted 2 = .ok (.iconst 0, 1) := by decide +kernel
theorem d_Mod_drafted_3 : decode b_Mod_drafted 3 = .ok (.istore_n 2, 1) := by decide +kernel
theorem d_Mod_drafted_4 : decode b_Mod_drafted 4 = .ok (.iload_n 2, 1) := by decide +kernel
theorem d_Mod_drafted_5 : decode b_Mod_drafted 5 = .ok (.sipush 256, 3) := by decide +kernel
theorem d_Mod_drafted_8 : decode b_Mod_drafted 8 = .ok (.if_icmp .ge 21, 3) := by decide +kernel
theorem d_Mod_drafted_11 : decode b_Mod_drafted 11 = .ok (.iload_n 1, 1) := by decide +kernel
theorem d_Mod_drafted_12 : decode b_Mod_drafted 12 = .ok (.aload_n 0, 1) := by decide +kernel
theorem d_Mod_drafted_13 : decode b_Mod_drafted 13 = .ok (.getfield 25, 3) := by decide +kernel
theorem d_Mod_drafted_16 : decode b_Mod_drafted 16 = .ok (.iload_n 2, 1) := by decide +kernel
theorem d_Mod_drafted_17 : decode b_Mod_drafted 17 = .ok (.iaload, 1) := by decide +kernel
theorem d_Mod_drafted_18 : decode b_Mod_drafted 18 = .ok (.invokestatic 46, 3) := by decide +kernel
theorem d_Mod_drafted_21 : decode b_Mod_drafted 21 = .ok (.iadd, 1) := by decide +kernel
theorem d_Mod_drafted_22 : decode b_Mod_drafted 22 = .ok (.istore_n 1, 1) := by decide +kernel
theorem d_Mod_drafted_23 : decode b_Mod_drafted 23 = .ok (.iinc 2 1, 3) := by decide +kernel
theorem d_Mod_drafted_26 : decode b_Mod_drafted 26 = .ok (.goto (-22), 3) := by decide +kernel
theorem d_Mod_drafted_29 : decode b_Mod_drafted 29 = .ok (.iload_n 1, 1) := by decide +kernel
theorem d_Mod_drafted_30 : decode b_Mod_drafted 30 = .ok (.ireturn, 1) := by decide +kernel
abbrev rm_M_write : Room := { frames := 0, cells := 0, slots := 0, locals := 0 }
set_option maxHeartbeats 4000000 in
set_option maxRecDepth 100000 in
theorem c_M_write (l : Launch) (D : va_G) (cI cB cZ : ClassId) (sz : Nat) (r : Nat) (ri : Nat) (ro : Nat) (rc : Nat) (rp : Nat) (rs : Nat) (rd : Nat) (rk : Nat) (rh : Nat) (iL : Int) (go : Int) (oL : Int) (o : Nat) (bP : Int) (bR : Int) (xi : Nat → Int) (x : Int64) (n : Int) (hiL : 0 ≤ iL ∧ iL ≤ 6000) (hn1 : -2147483648 ≤ n ∧ n < 2147483648) (hxi : ∀ k, k < 6000 → 0 ≤ xi k ∧ xi k < 256) : Met l y_Mod_write (.code y_Mod_write b_Mod_write 5 (some .boolean) :: zT) rm_M_write (zPc D classes (TY cI cB cZ) [(r, .inr (4, [.ref ri, .int (iZ iL), .int (iZ go), .ref ro, .int (iZ oL), .ref rc, .int (iZ (o : Int)), .ref rp, .ref rs, .ref rd, .ref rk, .ref rh, .int (iZ bP), .int (iZ bR)])), (ri, .inl (cI, 6000, .inl (zA xi)))] sz [.ref r, .long x, .int (iZ n)]) (zFi (S := Int × (Nat → Int)) D classes (fun z u => (z = 1 ∧ (1 ≤ n ∧ n ≤ 8 ∧ iL + n ≤ 6000) ∧ u.1 = iL + n ∧ (∀ k, k < 6000 → 0 ≤ u.2 k ∧ u.2 k < 256) ∧ (∀ k : Nat, (k : Int) < iL → u.2 k = xi k) ∧ ∀ j : Nat, (j : Int) < n → u.2 (iL.toNat + j) = wbyte x (n - 1 - j).toNat) ∨ (z = 0 ∧ ¬ (1 ≤ n ∧ n ≤ 8 ∧ iL + n ≤ 6000) ∧ u.1 = iL ∧ u.2 = xi)) (fun u => [(r, .inr (4, [.ref ri, .int (iZ u.1), .int (iZ go), .ref ro, .int (iZ oL), .ref rc, .int (iZ (o : Int)), .ref rp, .ref rs, .ref rd, .ref rk, .ref rh, .int (iZ bP), .int (iZ bR)])), (ri, .inl (cI, 6000, .inl (zA u.2)))]) (va_A [(r, .inr (4, [.ref ri, .int (iZ iL), .int (iZ go), .ref ro, .int (iZ oL), .ref rc, .int (iZ (o : Int)), .ref rp, .ref rs, .ref rd, .ref rk, .ref rh, .int (iZ bP), .int (iZ bR)])), (ri, .inl (cI, 6000, .inl (zA xi)))] sz)) 0 0 (va_A [(r, .inr (4, [.ref ri, .int (iZ iL), .int (iZ go), .ref ro, .int (iZ oL), .ref rc, .int (iZ (o : Int)), .ref rp, .ref rs, .ref rd, .ref rk, .ref rh, .int (iZ bP), .int (iZ bR)])), (ri, .inl (cI, 6000, .inl (zA xi)))] sz) := by
  refine z_ofi (by decide) (Nat.le_of_ble_eq_true rfl) (Or.inr rfl) ?_
  intro p e s m args below meth c A Q E jA jK jret H locs jP jD jS ls jl
  obtain ⟨jx, jb, jrt, jml, jown, jts, jlk⟩ := E
  have jown : s.vm.findClass R_Mod = some m.cls := jown
  have jl : lv_has ls 5 [(0, .ref r), (1, .long x), (3, .int (iZ n))] := jl
  refine lv_iload_n jx jb d_Mod_write_0 rfl (lv_at jl 2 rfl) ?_
  refine lv_iconst (v := iZ 1) jx jb d_Mod_write_1 rfl ?_
  refine z_icmp_lt (tgt := 23) jx jb d_Mod_write_2 (by decide) ⟨⟨by omega, by omega⟩, ⟨by decide, by decide⟩⟩ (fun hc2 => ?_) (fun hc2 => ?_)
  ·
    refine lv_iconst (v := iZ 0) jx jb d_Mod_write_23 rfl ?_
    exact jret _ _ _ (iL, xi) _ _ (Or.inr (Or.inl rfl)) (Or.inr ⟨rfl, by omega, rfl, rfl⟩) (jP.sub [0, 1] rfl) (jD.sub [0, 1] (by decide) rfl) jS d_Mod_write_24
  ·
    refine lv_iload_n jx jb d_Mod_write_5 rfl (lv_at jl 2 rfl) ?_
    refine lv_bipush (v := iZ 8) jx jb d_Mod_write_6 (by decide) ?_
    refine z_icmp_gt (tgt := 23) jx jb d_Mod_write_8 (by decide) ⟨⟨by omega, by omega⟩, ⟨by decide, by decide⟩⟩ (fun hc8 => ?_) (fun hc8 => ?_)
    ·
      refine lv_iconst (v := iZ 0) jx jb d_Mod_write_23 rfl ?_
      exact jret _ _ _ (iL, xi) _ _ (Or.inr (Or.inl rfl)) (Or.inr ⟨rfl, by omega, rfl, rfl⟩) (jP.sub [0, 1] rfl) (jD.sub [0, 1] (by decide) rfl) jS d_Mod_write_24
    ·
      refine lv_aload_n jx jb d_Mod_write_11 rfl (lv_at jl 0 rfl) ?_
      refine va_get (D := D) (ci := 4) (v := .int (iZ iL)) (C := R_Mod) (T := F_Mod) (N := 14) jx jb jts i_Mod jown jK.1 jP 0 rfl rfl 1 (by decide) (jts _ fl_Mod_35) (fun _ h9 => h9) rfl d_Mod_write_12 ?_
      refine lv_iload_n jx jb d_Mod_write_15 rfl (lv_at jl 2 rfl) ?_
      refine z_iadd jx jb d_Mod_write_16 ?_
      refine lv_sipush (v := iZ 6000) jx jb d_Mod_write_17 (by decide) ?_
      refine z_icmp_le (tgt := 25) jx jb d_Mod_write_20 (by decide) ⟨⟨by omega, by omega⟩, ⟨by decide, by decide⟩⟩ (fun hc20 => ?_) (fun hc20 => ?_)
      ·
        refine lv_iload_n jx jb d_Mod_write_25 rfl (lv_at jl 2 rfl) ?_
        refine lv_iconst (v := iZ 1) jx jb d_Mod_write_26 rfl ?_
        refine z_isub jx jb d_Mod_write_27 ?_
        refine z_top ((n.toNat : Int) - 1) (by omega) ?_
        refine lv_istore (lv' := [(4, .int (iZ ((n.toNat : Int) - 1))), (0, .ref r), (1, .long x), (3, .int (iZ n))]) jx jb d_Mod_write_28 jl (by decide) rfl (fun ls jl => ?_)
        have hloop30 : ∀ (nF : Nat) (d : Nat) (L2 : Int) (f2 : Nat → Int), d < nF → ((d : Int) ≤ n) → (wrM xi f2 iL L2 n d x) → ∀ (H : Heap) (locs : List Loc), va_P D classes [(r, .inr (4, [.ref ri, .int (iZ L2), .int (iZ go), .ref ro, .int (iZ oL), .ref rc, .int (iZ (o : Int)), .ref rp, .ref rs, .ref rd, .ref rk, .ref rh, .int (iZ bP), .int (iZ bR)])), (ri, .inl (cI, 6000, .inl (zA f2)))] H → va_D A [(r, .inr (4, [.ref ri, .int (iZ L2), .int (iZ go), .ref ro, .int (iZ oL), .ref rc, .int (iZ (o : Int)), .ref rp, .ref rs, .ref rd, .ref rk, .ref rh, .int (iZ bP), .int (iZ bR)])), (ri, .inl (cI, 6000, .inl (zA f2)))] → va_S A s.heap H locs → ∀ ls : Array Slot, lv_has ls 5 [(0, .ref r), (1, .long x), (3, .int (iZ n)), (4, .int (iZ ((d : Int) - 1)))] → W p l e rm_M_write s m args below meth c H locs 0 0 Q (F0 m 30 ls []) := by
          intro nF
          induction nF with
          | zero => intro d L2 f2 hm; exact absurd hm (Nat.not_lt_zero _)
          | succ nF ih30 =>
            intro d L2 f2 hm hd hW H locs jP jD jS ls jl
            refine lv_iload jx jb d_Mod_write_30 (lv_at jl 3 rfl) ?_
            have hd0 := hW.1
            refine z_if_lt (tgt := 72) jx jb d_Mod_write_32 (by decide) ⟨by omega, by omega⟩ (fun hc32 => ?_) (fun hc32 => ?_)
            ·
              refine lv_iconst (v := iZ 1) jx jb d_Mod_write_72 rfl ?_
              exact jret _ _ _ (L2, f2) _ _ (Or.inr (Or.inr rfl)) (Or.inl ⟨rfl, by omega, wrM_end hW (by omega)⟩) (jP.sub [0, 1] rfl) (jD.sub [0, 1] (by decide) rfl) jS d_Mod_write_73
            ·
              refine lv_aload_n jx jb d_Mod_write_35 rfl (lv_at jl 0 rfl) ?_
              refine va_get (D := D) (ci := 4) (v := .ref ri) (C := R_Mod) (T := F_Mod) (N := 14) jx jb jts i_Mod jown jK.1 jP 0 rfl rfl 0 (by decide) (jts _ fl_Mod_7) (fun _ h9 => h9) rfl d_Mod_write_36 ?_
              refine lv_aload_n jx jb d_Mod_write_39 rfl (lv_at jl 0 rfl) ?_
              refine va_get (D := D) (ci := 4) (v := .int (iZ L2)) (C := R_Mod) (T := F_Mod) (N := 14) jx jb jts i_Mod jown jK.1 jP 0 rfl rfl 1 (by decide) (jts _ fl_Mod_35) (fun _ h9 => h9) rfl d_Mod_write_40 ?_
              refine lv_lload_n jx jb d_Mod_write_43 rfl (lv_at jl 1 rfl) ?_
              refine lv_bipush (v := iZ 8) jx jb d_Mod_write_44 (by decide) ?_
              refine lv_iload jx jb d_Mod_write_46 (lv_at jl 3 rfl) ?_
              refine z_imul jx jb d_Mod_write_48 ?_
              refine z_lushr jx jb d_Mod_write_49 (8 * (d - 1)) (by omega) (fun v49 hv49 => ?_)
              refine z_l2i jx jb d_Mod_write_50 ?_
              refine lv_sipush (v := iZ 255) jx jb d_Mod_write_51 (by decide) ?_
              refine z_iand jx jb d_Mod_write_54 8 256 (rfl) (rfl) (by decide) ?_
              refine z_top (wbyte x (d - 1)) (hv49) ?_
              refine z_iast jx jb jK.1 jP jD jS 1 0 rfl rfl L2.toNat (by omega) d_Mod_write_55 (fun H locs jP jD jS => ?_)
              have jP : va_P D classes [(r, .inr (4, [.ref ri, .int (iZ L2), .int (iZ go), .ref ro, .int (iZ oL), .ref rc, .int (iZ (o : Int)), .ref rp, .ref rs, .ref rd, .ref rk, .ref rh, .int (iZ bP), .int (iZ bR)])), (ri, .inl (cI, 6000, .inl (zA (zu f2 L2.toNat (wbyte x (d - 1))))))] H := jP
              have jD : va_D A [(r, .inr (4, [.ref ri, .int (iZ L2), .int (iZ go), .ref ro, .int (iZ oL), .ref rc, .int (iZ (o : Int)), .ref rp, .ref rs, .ref rd, .ref rk, .ref rh, .int (iZ bP), .int (iZ bR)])), (ri, .inl (cI, 6000, .inl (zA (zu f2 L2.toNat (wbyte x (d - 1))))))] := jD
              refine lv_aload_n jx jb d_Mod_write_56 rfl (lv_at jl 0 rfl) ?_
              refine lv_dup jx jb d_Mod_write_57 rfl ?_
              refine va_get (D := D) (ci := 4) (v := .int (iZ L2)) (C := R_Mod) (T := F_Mod) (N := 14) jx jb jts i_Mod jown jK.1 jP 0 rfl rfl 1 (by decide) (jts _ fl_Mod_35) (fun _ h9 => h9) rfl d_Mod_write_58 ?_
              refine lv_iconst (v := iZ 1) jx jb d_Mod_write_61 rfl ?_
              refine z_iadd jx jb d_Mod_write_62 ?_
              refine va_put (D := D) (ci := 4) (v := .int (iZ (L2 + 1))) (ty := .int) (C := R_Mod) (T := F_Mod) (N := 14) jx jb jts i_Mod t_Mod t_Mod_ok n_Mod jown jK.1 jP jD jS 0 rfl rfl 1 (by decide) (jts _ fl_Mod_35) (fun _ h9 => h9) rfl (by decide +kernel) rfl rfl (Nat.le_of_ble_eq_true rfl) d_Mod_write_63 (fun H locs jP jD jS => ?_)
              have jP : va_P D classes [(r, .inr (4, [.ref ri, .int (iZ (L2 + 1)), .int (iZ go), .ref ro, .int (iZ oL), .ref rc, .int (iZ (o : Int)), .ref rp, .ref rs, .ref rd, .ref rk, .ref rh, .int (iZ bP), .int (iZ bR)])), (ri, .inl (cI, 6000, .inl (zA (zu f2 L2.toNat (wbyte x (d - 1))))))] H := jP
              have jD : va_D A [(r, .inr (4, [.ref ri, .int (iZ (L2 + 1)), .int (iZ go), .ref ro, .int (iZ oL), .ref rc, .int (iZ (o : Int)), .ref rp, .ref rs, .ref rd, .ref rk, .ref rh, .int (iZ bP), .int (iZ bR)])), (ri, .inl (cI, 6000, .inl (zA (zu f2 L2.toNat (wbyte x (d - 1))))))] := jD
              refine lv_iinc (v := iZ (((d - 1 : Nat) : Int) - 1)) (lv' := [(4, .int (iZ (((d - 1 : Nat) : Int) - 1))), (0, .ref r), (1, .long x), (3, .int (iZ n))]) jx jb d_Mod_write_66 jl (k := 3) rfl (by rw [show (((d - 1 : Nat) : Int) - 1) = ((d : Int) - 1) + (-1) from by omega]; exact iZ_add _ _) (by decide) rfl (fun ls jl => ?_)
              refine lv_goto (tgt := 30) jx jb d_Mod_write_69 (by decide) ?_
              exact ih30 (d - 1) (L2 + 1) (zu f2 L2.toNat (wbyte x (d - 1))) (by omega) (by first | assumption | omega) (wrM_s hW (by omega) (by omega)) _ _ (jP.sub [0, 1] rfl) (jD.sub [0, 1] (by decide) rfl) jS _ (lv_sub jl [1, 2, 3, 0] rfl)
        exact hloop30 (n.toNat + 1) n.toNat iL xi (Nat.lt_succ_self _) (by first | assumption | omega) (wrM_0 (by omega) (by omega) (by omega) hxi) _ _ (jP.sub [0, 1] rfl) (jD.sub [0, 1] (by decide) rfl) jS _ (lv_sub jl [1, 2, 3, 0] rfl)
      ·
        refine lv_iconst (v := iZ 0) jx jb d_Mod_write_23 rfl ?_
        exact jret _ _ _ (iL, xi) _ _ (Or.inr (Or.inl rfl)) (Or.inr ⟨rfl, by omega, rfl, rfl⟩) (jP.sub [0, 1] rfl) (jD.sub [0, 1] (by decide) rfl) jS d_Mod_write_24
abbrev rm_M_turn : Room := { frames := 0, cells := 0, slots := 0, locals := 0 }
set_option maxHeartbeats 4000000 in
set_option maxRecDepth 100000 in
theorem c_M_turn (l : Launch) (D : va_G) (cI cB cZ : ClassId) (sz : Nat) (r : Nat) (ri : Nat) (ro : Nat) (rc : Nat) (rp : Nat) (rs : Nat) (rd : Nat) (rk : Nat) (rh : Nat) (iL : Int) (go : Int) (oL : Int) (o : Nat) (bP : Int) (bR : Int) (xi : Nat → Int) (xo : Nat → Int) (hoL : 0 ≤ oL ∧ oL ≤ 6000) : Met l y_Mod_turn (.code y_Mod_turn b_Mod_turn 2 none :: zT) rm_M_turn (zPc D classes (TY cI cB cZ) [(r, .inr (4, [.ref ri, .int (iZ iL), .int (iZ go), .ref ro, .int (iZ oL), .ref rc, .int (iZ (o : Int)), .ref rp, .ref rs, .ref rd, .ref rk, .ref rh, .int (iZ bP), .int (iZ bR)])), (ri, .inl (cI, 6000, .inl (zA xi))), (ro, .inl (cI, 6000, .inl (zA xo)))] sz [.ref r]) (zFv (S := Nat → Int) D classes (fun u => (∀ k : Nat, (k : Int) < oL → u k = xo k) ∧ ∀ k : Nat, oL ≤ (k : Int) → u k = xi k) (fun u => [(r, .inr (4, [.ref ri, .int (iZ oL), .int (iZ 0), .ref ro, .int (iZ oL), .ref rc, .int (iZ (o : Int)), .ref rp, .ref rs, .ref rd, .ref rk, .ref rh, .int (iZ bP), .int (iZ bR)])), (ri, .inl (cI, 6000, .inl (zA u))), (ro, .inl (cI, 6000, .inl (zA xo)))]) (va_A [(r, .inr (4, [.ref ri, .int (iZ iL), .int (iZ go), .ref ro, .int (iZ oL), .ref rc, .int (iZ (o : Int)), .ref rp, .ref rs, .ref rd, .ref rk, .ref rh, .int (iZ bP), .int (iZ bR)])), (ri, .inl (cI, 6000, .inl (zA xi))), (ro, .inl (cI, 6000, .inl (zA xo)))] sz)) 0 0 (va_A [(r, .inr (4, [.ref ri, .int (iZ iL), .int (iZ go), .ref ro, .int (iZ oL), .ref rc, .int (iZ (o : Int)), .ref rp, .ref rs, .ref rd, .ref rk, .ref rh, .int (iZ bP), .int (iZ bR)])), (ri, .inl (cI, 6000, .inl (zA xi))), (ro, .inl (cI, 6000, .inl (zA xo)))] sz) := by
  refine z_ofv (by decide) (Nat.le_of_ble_eq_true rfl) rfl ?_
  intro p e s m args below meth c A Q E jmn jA jK jret H locs jP jD jS ls jl
  obtain ⟨jx, jb, jrt, jml, jown, jts, jlk⟩ := E
  have jown : s.vm.findClass R_Mod = some m.cls := jown
  have jl : lv_has ls 2 [(0, .ref r)] := jl
  refine lv_iconst (v := iZ 0) jx jb d_Mod_turn_0 rfl ?_
  refine lv_istore_n (lv' := [(1, .int (iZ 0)), (0, .ref r)]) jx jb d_Mod_turn_1 rfl jl (by decide) rfl (fun ls jl => ?_)
  have hloop2 : ∀ (nF : Nat) (i : Nat) (x2 : Nat → Int), oL.toNat - i < nF → ((i : Int) ≤ oL) → (∀ k, k < i → x2 k = xo k) → (∀ k, i ≤ k → x2 k = xi k) → ∀ (H : Heap) (locs : List Loc), va_P D classes [(r, .inr (4, [.ref ri, .int (iZ iL), .int (iZ go), .ref ro, .int (iZ oL), .ref rc, .int (iZ (o : Int)), .ref rp, .ref rs, .ref rd, .ref rk, .ref rh, .int (iZ bP), .int (iZ bR)])), (ri, .inl (cI, 6000, .inl (zA x2))), (ro, .inl (cI, 6000, .inl (zA xo)))] H → va_D A [(r, .inr (4, [.ref ri, .int (iZ iL), .int (iZ go), .ref ro, .int (iZ oL), .ref rc, .int (iZ (o : Int)), .ref rp, .ref rs, .ref rd, .ref rk, .ref rh, .int (iZ bP), .int (iZ bR)])), (ri, .inl (cI, 6000, .inl (zA x2))), (ro, .inl (cI, 6000, .inl (zA xo)))] → va_S A s.heap H locs → ∀ ls : Array Slot, lv_has ls 2 [(0, .ref r), (1, .int (iZ (i : Int)))] → W p l e rm_M_turn s m args below meth c H locs 0 0 Q (F0 m 2 ls []) := by
    intro nF
    induction nF with
    | zero => intro i x2 hm; exact absurd hm (Nat.not_lt_zero _)
    | succ nF ih2 =>
      intro i x2 hm hi h1 h2 H locs jP jD jS ls jl
      refine lv_iload_n jx jb d_Mod_turn_2 rfl (lv_at jl 1 rfl) ?_
      refine lv_aload_n jx jb d_Mod_turn_3 rfl (lv_at jl 0 rfl) ?_
      refine va_get (D := D) (ci := 4) (v := .int (iZ oL)) (C := R_Mod) (T := F_Mod) (N := 14) jx jb jts i_Mod jown jK.1 jP 0 rfl rfl 4 (by decide) (jts _ fl_Mod_39) (fun _ h9 => h9) rfl d_Mod_turn_4 ?_
      refine z_icmp_ge (tgt := 28) jx jb d_Mod_turn_7 (by decide) ⟨⟨by omega, by omega⟩, ⟨by omega, by omega⟩⟩ (fun hc7 => ?_) (fun hc7 => ?_)
      ·
        refine lv_aload_n jx jb d_Mod_turn_28 rfl (lv_at jl 0 rfl) ?_
        refine lv_aload_n jx jb d_Mod_turn_29 rfl (lv_at jl 0 rfl) ?_
        refine va_get (D := D) (ci := 4) (v := .int (iZ oL)) (C := R_Mod) (T := F_Mod) (N := 14) jx jb jts i_Mod jown jK.1 jP 0 rfl rfl 4 (by decide) (jts _ fl_Mod_39) (fun _ h9 => h9) rfl d_Mod_turn_30 ?_
        refine va_put (D := D) (ci := 4) (v := .int (iZ oL)) (ty := .int) (C := R_Mod) (T := F_Mod) (N := 14) jx jb jts i_Mod t_Mod t_Mod_ok n_Mod jown jK.1 jP jD jS 0 rfl rfl 1 (by decide) (jts _ fl_Mod_35) (fun _ h9 => h9) rfl (by decide +kernel) rfl rfl (Nat.le_of_ble_eq_true rfl) d_Mod_turn_33 (fun H locs jP jD jS => ?_)
        have jP : va_P D classes [(r, .inr (4, [.ref ri, .int (iZ oL), .int (iZ go), .ref ro, .int (iZ oL), .ref rc, .int (iZ (o : Int)), .ref rp, .ref rs, .ref rd, .ref rk, .ref rh, .int (iZ bP), .int (iZ bR)])), (ri, .inl (cI, 6000, .inl (zA x2))), (ro, .inl (cI, 6000, .inl (zA xo)))] H := jP
        have jD : va_D A [(r, .inr (4, [.ref ri, .int (iZ oL), .int (iZ go), .ref ro, .int (iZ oL), .ref rc, .int (iZ (o : Int)), .ref rp, .ref rs, .ref rd, .ref rk, .ref rh, .int (iZ bP), .int (iZ bR)])), (ri, .inl (cI, 6000, .inl (zA x2))), (ro, .inl (cI, 6000, .inl (zA xo)))] := jD
        refine lv_aload_n jx jb d_Mod_turn_36 rfl (lv_at jl 0 rfl) ?_
        refine lv_iconst (v := iZ 0) jx jb d_Mod_turn_37 rfl ?_
        refine va_put (D := D) (ci := 4) (v := .int (iZ 0)) (ty := .int) (C := R_Mod) (T := F_Mod) (N := 14) jx jb jts i_Mod t_Mod t_Mod_ok n_Mod jown jK.1 jP jD jS 0 rfl rfl 2 (by decide) (jts _ fl_Mod_42) (fun _ h9 => h9) rfl (by decide +kernel) rfl rfl (Nat.le_of_ble_eq_true rfl) d_Mod_turn_38 (fun H locs jP jD jS => ?_)
        have jP : va_P D classes [(r, .inr (4, [.ref ri, .int (iZ oL), .int (iZ 0), .ref ro, .int (iZ oL), .ref rc, .int (iZ (o : Int)), .ref rp, .ref rs, .ref rd, .ref rk, .ref rh, .int (iZ bP), .int (iZ bR)])), (ri, .inl (cI, 6000, .inl (zA x2))), (ro, .inl (cI, 6000, .inl (zA xo)))] H := jP
        have jD : va_D A [(r, .inr (4, [.ref ri, .int (iZ oL), .int (iZ 0), .ref ro, .int (iZ oL), .ref rc, .int (iZ (o : Int)), .ref rp, .ref rs, .ref rd, .ref rk, .ref rh, .int (iZ bP), .int (iZ bR)])), (ri, .inl (cI, 6000, .inl (zA x2))), (ro, .inl (cI, 6000, .inl (zA xo)))] := jD
        exact jret _ _ (x2) _ _ (⟨fun k h => h1 k (by omega), fun k h => h2 k (by omega)⟩) (jP.sub [0, 1, 2] rfl) (jD.sub [0, 1, 2] (by decide) rfl) jS d_Mod_turn_41
      ·
        refine lv_aload_n jx jb d_Mod_turn_10 rfl (lv_at jl 0 rfl) ?_
        refine va_get (D := D) (ci := 4) (v := .ref ri) (C := R_Mod) (T := F_Mod) (N := 14) jx jb jts i_Mod jown jK.1 jP 0 rfl rfl 0 (by decide) (jts _ fl_Mod_7) (fun _ h9 => h9) rfl d_Mod_turn_11 ?_
        refine lv_iload_n jx jb d_Mod_turn_14 rfl (lv_at jl 1 rfl) ?_
        refine lv_aload_n jx jb d_Mod_turn_15 rfl (lv_at jl 0 rfl) ?_
        refine va_get (D := D) (ci := 4) (v := .ref ro) (C := R_Mod) (T := F_Mod) (N := 14) jx jb jts i_Mod jown jK.1 jP 0 rfl rfl 3 (by decide) (jts _ fl_Mod_13) (fun _ h9 => h9) rfl d_Mod_turn_16 ?_
        refine lv_iload_n jx jb d_Mod_turn_19 rfl (lv_at jl 1 rfl) ?_
        refine z_iald jx jb jK.1 jP 2 0 rfl rfl i (by omega) d_Mod_turn_20 ?_
        refine z_iast jx jb jK.1 jP jD jS 1 0 rfl rfl i (by omega) d_Mod_turn_21 (fun H locs jP jD jS => ?_)
        have jP : va_P D classes [(r, .inr (4, [.ref ri, .int (iZ iL), .int (iZ go), .ref ro, .int (iZ oL), .ref rc, .int (iZ (o : Int)), .ref rp, .ref rs, .ref rd, .ref rk, .ref rh, .int (iZ bP), .int (iZ bR)])), (ri, .inl (cI, 6000, .inl (zA (zu x2 i (xo i))))), (ro, .inl (cI, 6000, .inl (zA xo)))] H := jP
        have jD : va_D A [(r, .inr (4, [.ref ri, .int (iZ iL), .int (iZ go), .ref ro, .int (iZ oL), .ref rc, .int (iZ (o : Int)), .ref rp, .ref rs, .ref rd, .ref rk, .ref rh, .int (iZ bP), .int (iZ bR)])), (ri, .inl (cI, 6000, .inl (zA (zu x2 i (xo i))))), (ro, .inl (cI, 6000, .inl (zA xo)))] := jD
        refine lv_iinc (v := iZ ((i : Int) + 1)) (lv' := [(1, .int (iZ ((i : Int) + 1))), (0, .ref r)]) jx jb d_Mod_turn_22 jl (k := 1) rfl (iZ_add _ _) (by decide) rfl (fun ls jl => ?_)
        refine lv_goto (tgt := 2) jx jb d_Mod_turn_25 (by decide) ?_
        exact ih2 (i + 1) (zu x2 i (xo i)) (by omega) (by first | assumption | omega) (zu_all h1 rfl) (fun k h => by rw [zu_n (by omega)]; exact h2 k (by omega)) _ _ (jP.sub [0, 1, 2] rfl) (jD.sub [0, 1, 2] (by decide) rfl) jS _ (lv_sub jl [1, 0] rfl)
  exact hloop2 ((oL.toNat - 0) + 1) 0 xi (Nat.lt_succ_self _) (by first | assumption | omega) (fun k h => absurd h (by omega)) (fun k _ => rfl) _ _ (jP.sub [0, 1, 2] rfl) (jD.sub [0, 1, 2] (by decide) rfl) jS _ (lv_sub jl [1, 0] rfl)
abbrev rm_M_clear : Room := { frames := 0, cells := 0, slots := 0, locals := 0 }
set_option maxHeartbeats 4000000 in
set_option maxRecDepth 100000 in
theorem c_M_clear (l : Launch) (D : va_G) (cI cB cZ : ClassId) (sz : Nat) (r : Nat) (ri : Nat) (ro : Nat) (rc : Nat) (rp : Nat) (rs : Nat) (rd : Nat) (rk : Nat) (rh : Nat) (iL : Int) (go : Int) (oL : Int) (o : Nat) (bP : Int) (bR : Int) (xc : Nat → Int) : Met l y_Mod_clear (.code y_Mod_clear b_Mod_clear 2 none :: zT) rm_M_clear (zPc D classes (TY cI cB cZ) [(r, .inr (4, [.ref ri, .int (iZ iL), .int (iZ go), .ref ro, .int (iZ oL), .ref rc, .int (iZ (o : Int)), .ref rp, .ref rs, .ref rd, .ref rk, .ref rh, .int (iZ bP), .int (iZ bR)])), (rc, .inl (cI, 256, .inl (zA xc)))] sz [.ref r]) (zFv (S := Nat → Int) D classes (fun u => ∀ k, k < 256 → u k = 0) (fun u => [(r, .inr (4, [.ref ri, .int (iZ 0), .int (iZ 0), .ref ro, .int (iZ oL), .ref rc, .int (iZ (o : Int)), .ref rp, .ref rs, .ref rd, .ref rk, .ref rh, .int (iZ bP), .int (iZ bR)])), (rc, .inl (cI, 256, .inl (zA u)))]) (va_A [(r, .inr (4, [.ref ri, .int (iZ iL), .int (iZ go), .ref ro, .int (iZ oL), .ref rc, .int (iZ (o : Int)), .ref rp, .ref rs, .ref rd, .ref rk, .ref rh, .int (iZ bP), .int (iZ bR)])), (rc, .inl (cI, 256, .inl (zA xc)))] sz)) 0 0 (va_A [(r, .inr (4, [.ref ri, .int (iZ iL), .int (iZ go), .ref ro, .int (iZ oL), .ref rc, .int (iZ (o : Int)), .ref rp, .ref rs, .ref rd, .ref rk, .ref rh, .int (iZ bP), .int (iZ bR)])), (rc, .inl (cI, 256, .inl (zA xc)))] sz) := by
  refine z_ofv (by decide) (Nat.le_of_ble_eq_true rfl) rfl ?_
  intro p e s m args below meth c A Q E jmn jA jK jret H locs jP jD jS ls jl
  obtain ⟨jx, jb, jrt, jml, jown, jts, jlk⟩ := E
  have jown : s.vm.findClass R_Mod = some m.cls := jown
  have jl : lv_has ls 2 [(0, .ref r)] := jl
  refine lv_aload_n jx jb d_Mod_clear_0 rfl (lv_at jl 0 rfl) ?_
  refine lv_iconst (v := iZ 0) jx jb d_Mod_clear_1 rfl ?_
  refine va_put (D := D) (ci := 4) (v := .int (iZ 0)) (ty := .int) (C := R_Mod) (T := F_Mod) (N := 14) jx jb jts i_Mod t_Mod t_Mod_ok n_Mod jown jK.1 jP jD jS 0 rfl rfl 1 (by decide) (jts _ fl_Mod_35) (fun _ h9 => h9) rfl (by decide +kernel) rfl rfl (Nat.le_of_ble_eq_true rfl) d_Mod_clear_2 (fun H locs jP jD jS => ?_)
  have jP : va_P D classes [(r, .inr (4, [.ref ri, .int (iZ 0), .int (iZ go), .ref ro, .int (iZ oL), .ref rc, .int (iZ (o : Int)), .ref rp, .ref rs, .ref rd, .ref rk, .ref rh, .int (iZ bP), .int (iZ bR)])), (rc, .inl (cI, 256, .inl (zA xc)))] H := jP
  have jD : va_D A [(r, .inr (4, [.ref ri, .int (iZ 0), .int (iZ go), .ref ro, .int (iZ oL), .ref rc, .int (iZ (o : Int)), .ref rp, .ref rs, .ref rd, .ref rk, .ref rh, .int (iZ bP), .int (iZ bR)])), (rc, .inl (cI, 256, .inl (zA xc)))] := jD
  refine lv_aload_n jx jb d_Mod_clear_5 rfl (lv_at jl 0 rfl) ?_
  refine lv_iconst (v := iZ 0) jx jb d_Mod_clear_6 rfl ?_
  refine va_put (D := D) (ci := 4) (v := .int (iZ 0)) (ty := .int) (C := R_Mod) (T := F_Mod) (N := 14) jx jb jts i_Mod t_Mod t_Mod_ok n_Mod jown jK.1 jP jD jS 0 rfl rfl 2 (by decide) (jts _ fl_Mod_42) (fun _ h9 => h9) rfl (by decide +kernel) rfl rfl (Nat.le_of_ble_eq_true rfl) d_Mod_clear_7 (fun H locs jP jD jS => ?_)
  have jP : va_P D classes [(r, .inr (4, [.ref ri, .int (iZ 0), .int (iZ 0), .ref ro, .int (iZ oL), .ref rc, .int (iZ (o : Int)), .ref rp, .ref rs, .ref rd, .ref rk, .ref rh, .int (iZ bP), .int (iZ bR)])), (rc, .inl (cI, 256, .inl (zA xc)))] H := jP
  have jD : va_D A [(r, .inr (4, [.ref ri, .int (iZ 0), .int (iZ 0), .ref ro, .int (iZ oL), .ref rc, .int (iZ (o : Int)), .ref rp, .ref rs, .ref rd, .ref rk, .ref rh, .int (iZ bP), .int (iZ bR)])), (rc, .inl (cI, 256, .inl (zA xc)))] := jD
  refine lv_iconst (v := iZ 0) jx jb d_Mod_clear_10 rfl ?_
  refine lv_istore_n (lv' := [(1, .int (iZ 0)), (0, .ref r)]) jx jb d_Mod_clear_11 rfl jl (by decide) rfl (fun ls jl => ?_)
  have hloop12 : ∀ (nF : Nat) (i : Nat) (x2 : Nat → Int), 256 - i < nF → (i ≤ 256) → (∀ k, k < i → x2 k = 0) → ∀ (H : Heap) (locs : List Loc), va_P D classes [(r, .inr (4, [.ref ri, .int (iZ 0), .int (iZ 0), .ref ro, .int (iZ oL), .ref rc, .int (iZ (o : Int)), .ref rp, .ref rs, .ref rd, .ref rk, .ref rh, .int (iZ bP), .int (iZ bR)])), (rc, .inl (cI, 256, .inl (zA x2)))] H → va_D A [(r, .inr (4, [.ref ri, .int (iZ 0), .int (iZ 0), .ref ro, .int (iZ oL), .ref rc, .int (iZ (o : Int)), .ref rp, .ref rs, .ref rd, .ref rk, .ref rh, .int (iZ bP), .int (iZ bR)])), (rc, .inl (cI, 256, .inl (zA x2)))] → va_S A s.heap H locs → ∀ ls : Array Slot, lv_has ls 2 [(0, .ref r), (1, .int (iZ (i : Int)))] → W p l e rm_M_clear s m args below meth c H locs 0 0 Q (F0 m 12 ls []) := by
    intro nF
    induction nF with
    | zero => intro i x2 hm; exact absurd hm (Nat.not_lt_zero _)
    | succ nF ih12 =>
      intro i x2 hm hi h1 H locs jP jD jS ls jl
      refine lv_iload_n jx jb d_Mod_clear_12 rfl (lv_at jl 1 rfl) ?_
      refine lv_sipush (v := iZ 256) jx jb d_Mod_clear_13 (by decide) ?_
      refine z_icmp_ge (tgt := 32) jx jb d_Mod_clear_16 (by decide) ⟨⟨by omega, by omega⟩, ⟨by decide, by decide⟩⟩ (fun hc16 => ?_) (fun hc16 => ?_)
      ·
        exact jret _ _ (x2) _ _ (fun k h => h1 k (by omega)) (jP.sub [0, 1] rfl) (jD.sub [0, 1] (by decide) rfl) jS d_Mod_clear_32
      ·
        refine lv_aload_n jx jb d_Mod_clear_19 rfl (lv_at jl 0 rfl) ?_
        refine va_get (D := D) (ci := 4) (v := .ref rc) (C := R_Mod) (T := F_Mod) (N := 14) jx jb jts i_Mod jown jK.1 jP 0 rfl rfl 5 (by decide) (jts _ fl_Mod_16) (fun _ h9 => h9) rfl d_Mod_clear_20 ?_
        refine lv_iload_n jx jb d_Mod_clear_23 rfl (lv_at jl 1 rfl) ?_
        refine lv_iconst (v := iZ 0) jx jb d_Mod_clear_24 rfl ?_
        refine z_iast jx jb jK.1 jP jD jS 1 0 rfl rfl i (by omega) d_Mod_clear_25 (fun H locs jP jD jS => ?_)
        have jP : va_P D classes [(r, .inr (4, [.ref ri, .int (iZ 0), .int (iZ 0), .ref ro, .int (iZ oL), .ref rc, .int (iZ (o : Int)), .ref rp, .ref rs, .ref rd, .ref rk, .ref rh, .int (iZ bP), .int (iZ bR)])), (rc, .inl (cI, 256, .inl (zA (zu x2 i 0))))] H := jP
        have jD : va_D A [(r, .inr (4, [.ref ri, .int (iZ 0), .int (iZ 0), .ref ro, .int (iZ oL), .ref rc, .int (iZ (o : Int)), .ref rp, .ref rs, .ref rd, .ref rk, .ref rh, .int (iZ bP), .int (iZ bR)])), (rc, .inl (cI, 256, .inl (zA (zu x2 i 0))))] := jD
        refine lv_iinc (v := iZ ((i : Int) + 1)) (lv' := [(1, .int (iZ ((i : Int) + 1))), (0, .ref r)]) jx jb d_Mod_clear_26 jl (k := 1) rfl (iZ_add _ _) (by decide) rfl (fun ls jl => ?_)
        refine lv_goto (tgt := 12) jx jb d_Mod_clear_29 (by decide) ?_
        exact ih12 (i + 1) (zu x2 i 0) (by omega) (by first | assumption | omega) (zu_all (v := fun _ => 0) h1 rfl) _ _ (jP.sub [0, 1] rfl) (jD.sub [0, 1] (by decide) rfl) jS _ (lv_sub jl [1, 0] rfl)
  exact hloop12 ((256 - 0) + 1) 0 xc (Nat.lt_succ_self _) (by first | assumption | omega) (fun k h => absurd h (by omega)) _ _ (jP.sub [0, 1] rfl) (jD.sub [0, 1] (by decide) rfl) jS _ (lv_sub jl [1, 0] rfl)
abbrev rm_M_countAll : Room := { frames := 0, cells := 0, slots := 0, locals := 0 }
set_option maxHeartbeats 4000000 in
set_option maxRecDepth 100000 in
theorem c_M_countAll (l : Launch) (D : va_G) (cI cB cZ : ClassId) (sz : Nat) (r : Nat) (ri : Nat) (ro : Nat) (rc : Nat) (rp : Nat) (rs : Nat) (rd : Nat) (rk : Nat) (rh : Nat) (iL : Int) (go : Int) (oL : Int) (o : Nat) (bP : Int) (bR : Int) (xi : Nat → Int) (xc : Nat → Int) (hiL : 0 ≤ iL ∧ iL ≤ 6000) (hgo : 0 ≤ go ∧ go ≤ iL) (hxi : ∀ k, k < 6000 → 0 ≤ xi k ∧ xi k < 256) : Met l y_Mod_countAll (.code y_Mod_countAll b_Mod_countAll 2 (some .int) :: zT) rm_M_countAll (zPc D classes (TY cI cB cZ) [(r, .inr (4, [.ref ri, .int (iZ iL), .int (iZ go), .ref ro, .int (iZ oL), .ref rc, .int (iZ (o : Int)), .ref rp, .ref rs, .ref rd, .ref rk, .ref rh, .int (iZ bP), .int (iZ bR)])), (ri, .inl (cI, 6000, .inl (zA xi))), (rc, .inl (cI, 256, .inl (zA xc)))] sz [.ref r]) (zFi (S := Nat → Int) D classes (fun z u => z = iL - go ∧ ∀ k, k < 256 → u k = cnB xi go.toNat (iL - go).toNat k) (fun u => [(r, .inr (4, [.ref ri, .int (iZ iL), .int (iZ go), .ref ro, .int (iZ oL), .ref rc, .int (iZ (o : Int)), .ref rp, .ref rs, .ref rd, .ref rk, .ref rh, .int (iZ bP), .int (iZ bR)])), (ri, .inl (cI, 6000, .inl (zA xi))), (rc, .inl (cI, 256, .inl (zA u)))]) (va_A [(r, .inr (4, [.ref ri, .int (iZ iL), .int (iZ go), .ref ro, .int (iZ oL), .ref rc, .int (iZ (o : Int)), .ref rp, .ref rs, .ref rd, .ref rk, .ref rh, .int (iZ bP), .int (iZ bR)])), (ri, .inl (cI, 6000, .inl (zA xi))), (rc, .inl (cI, 256, .inl (zA xc)))] sz)) 0 0 (va_A [(r, .inr (4, [.ref ri, .int (iZ iL), .int (iZ go), .ref ro, .int (iZ oL), .ref rc, .int (iZ (o : Int)), .ref rp, .ref rs, .ref rd, .ref rk, .ref rh, .int (iZ bP), .int (iZ bR)])), (ri, .inl (cI, 6000, .inl (zA xi))), (rc, .inl (cI, 256, .inl (zA xc)))] sz) := by
  refine z_ofi (by decide) (Nat.le_of_ble_eq_true rfl) (Or.inl rfl) ?_
  intro p e s m args below meth c A Q E jA jK jret H locs jP jD jS ls jl
  obtain ⟨jx, jb, jrt, jml, jown, jts, jlk⟩ := E
  have jown : s.vm.findClass R_Mod = some m.cls := jown
  have jl : lv_has ls 2 [(0, .ref r)] := jl
  refine lv_iconst (v := iZ 0) jx jb d_Mod_countAll_0 rfl ?_
  refine lv_istore_n (lv' := [(1, .int (iZ 0)), (0, .ref r)]) jx jb d_Mod_countAll_1 rfl jl (by decide) rfl (fun ls jl => ?_)
  have hloop2 : ∀ (nF : Nat) (i : Nat) (x2 : Nat → Int), 256 - i < nF → (i ≤ 256) → (∀ k, k < i → x2 k = 0) → ∀ (H : Heap) (locs : List Loc), va_P D classes [(r, .inr (4, [.ref ri, .int (iZ iL), .int (iZ go), .ref ro, .int (iZ oL), .ref rc, .int (iZ (o : Int)), .ref rp, .ref rs, .ref rd, .ref rk, .ref rh, .int (iZ bP), .int (iZ bR)])), (ri, .inl (cI, 6000, .inl (zA xi))), (rc, .inl (cI, 256, .inl (zA x2)))] H → va_D A [(r, .inr (4, [.ref ri, .int (iZ iL), .int (iZ go), .ref ro, .int (iZ oL), .ref rc, .int (iZ (o : Int)), .ref rp, .ref rs, .ref rd, .ref rk, .ref rh, .int (iZ bP), .int (iZ bR)])), (ri, .inl (cI, 6000, .inl (zA xi))), (rc, .inl (cI, 256, .inl (zA x2)))] → va_S A s.heap H locs → ∀ ls : Array Slot, lv_has ls 2 [(0, .ref r), (1, .int (iZ (i : Int)))] → W p l e rm_M_countAll s m args below meth c H locs 0 0 Q (F0 m 2 ls []) := by
    intro nF
    induction nF with
    | zero => intro i x2 hm; exact absurd hm (Nat.not_lt_zero _)
    | succ nF ih2 =>
      intro i x2 hm hi h1 H locs jP jD jS ls jl
      refine lv_iload_n jx jb d_Mod_countAll_2 rfl (lv_at jl 1 rfl) ?_
      refine lv_sipush (v := iZ 256) jx jb d_Mod_countAll_3 (by decide) ?_
      refine z_icmp_ge (tgt := 22) jx jb d_Mod_countAll_6 (by decide) ⟨⟨by omega, by omega⟩, ⟨by decide, by decide⟩⟩ (fun hc6 => ?_) (fun hc6 => ?_)
      ·
        refine lv_aload_n jx jb d_Mod_countAll_22 rfl (lv_at jl 0 rfl) ?_
        refine va_get (D := D) (ci := 4) (v := .int (iZ go)) (C := R_Mod) (T := F_Mod) (N := 14) jx jb jts i_Mod jown jK.1 jP 0 rfl rfl 2 (by decide) (jts _ fl_Mod_42) (fun _ h9 => h9) rfl d_Mod_countAll_23 ?_
        refine z_top (go + ((0 : Nat) : Int)) (by omega) ?_
        refine lv_istore_n (lv' := [(1, .int (iZ (go + ((0 : Nat) : Int)))), (0, .ref r)]) jx jb d_Mod_countAll_26 rfl jl (by decide) rfl (fun ls jl => ?_)
        have hloop27 : ∀ (nF : Nat) (n : Nat) (x3 : Nat → Int), (iL - go).toNat - n < nF → ((n : Int) ≤ iL - go) → (∀ s, s < 256 → x3 s = cnB xi go.toNat n s) → ∀ (H : Heap) (locs : List Loc), va_P D classes [(r, .inr (4, [.ref ri, .int (iZ iL), .int (iZ go), .ref ro, .int (iZ oL), .ref rc, .int (iZ (o : Int)), .ref rp, .ref rs, .ref rd, .ref rk, .ref rh, .int (iZ bP), .int (iZ bR)])), (ri, .inl (cI, 6000, .inl (zA xi))), (rc, .inl (cI, 256, .inl (zA x3)))] H → va_D A [(r, .inr (4, [.ref ri, .int (iZ iL), .int (iZ go), .ref ro, .int (iZ oL), .ref rc, .int (iZ (o : Int)), .ref rp, .ref rs, .ref rd, .ref rk, .ref rh, .int (iZ bP), .int (iZ bR)])), (ri, .inl (cI, 6000, .inl (zA xi))), (rc, .inl (cI, 256, .inl (zA x3)))] → va_S A s.heap H locs → ∀ ls : Array Slot, lv_has ls 2 [(0, .ref r), (1, .int (iZ (go + (n : Int))))] → W p l e rm_M_countAll s m args below meth c H locs 0 0 Q (F0 m 27 ls []) := by
          intro nF
          induction nF with
          | zero => intro n x3 hm; exact absurd hm (Nat.not_lt_zero _)
          | succ nF ih27 =>
            intro n x3 hm hn h3 H locs jP jD jS ls jl
            refine lv_iload_n jx jb d_Mod_countAll_27 rfl (lv_at jl 1 rfl) ?_
            refine lv_aload_n jx jb d_Mod_countAll_28 rfl (lv_at jl 0 rfl) ?_
            refine va_get (D := D) (ci := 4) (v := .int (iZ iL)) (C := R_Mod) (T := F_Mod) (N := 14) jx jb jts i_Mod jown jK.1 jP 0 rfl rfl 1 (by decide) (jts _ fl_Mod_35) (fun _ h9 => h9) rfl d_Mod_countAll_29 ?_
            refine z_icmp_ge (tgt := 56) jx jb d_Mod_countAll_32 (by decide) ⟨⟨by omega, by omega⟩, ⟨by omega, by omega⟩⟩ (fun hc32 => ?_) (fun hc32 => ?_)
            ·
              refine lv_aload_n jx jb d_Mod_countAll_56 rfl (lv_at jl 0 rfl) ?_
              refine va_get (D := D) (ci := 4) (v := .int (iZ iL)) (C := R_Mod) (T := F_Mod) (N := 14) jx jb jts i_Mod jown jK.1 jP 0 rfl rfl 1 (by decide) (jts _ fl_Mod_35) (fun _ h9 => h9) rfl d_Mod_countAll_57 ?_
              refine lv_aload_n jx jb d_Mod_countAll_60 rfl (lv_at jl 0 rfl) ?_
              refine va_get (D := D) (ci := 4) (v := .int (iZ go)) (C := R_Mod) (T := F_Mod) (N := 14) jx jb jts i_Mod jown jK.1 jP 0 rfl rfl 2 (by decide) (jts _ fl_Mod_42) (fun _ h9 => h9) rfl d_Mod_countAll_61 ?_
              refine z_isub jx jb d_Mod_countAll_64 ?_
              exact jret _ _ _ (x3) _ _ (Or.inl rfl) (⟨rfl, fun k h => by rw [show (iL - go).toNat = n by omega]; exact h3 k h⟩) (jP.sub [0, 1, 2] rfl) (jD.sub [0, 1, 2] (by decide) rfl) jS d_Mod_countAll_65
            ·
              refine lv_aload_n jx jb d_Mod_countAll_35 rfl (lv_at jl 0 rfl) ?_
              refine va_get (D := D) (ci := 4) (v := .ref rc) (C := R_Mod) (T := F_Mod) (N := 14) jx jb jts i_Mod jown jK.1 jP 0 rfl rfl 5 (by decide) (jts _ fl_Mod_16) (fun _ h9 => h9) rfl d_Mod_countAll_36 ?_
              refine lv_aload_n jx jb d_Mod_countAll_39 rfl (lv_at jl 0 rfl) ?_
              refine va_get (D := D) (ci := 4) (v := .ref ri) (C := R_Mod) (T := F_Mod) (N := 14) jx jb jts i_Mod jown jK.1 jP 0 rfl rfl 0 (by decide) (jts _ fl_Mod_7) (fun _ h9 => h9) rfl d_Mod_countAll_40 ?_
              refine lv_iload_n jx jb d_Mod_countAll_43 rfl (lv_at jl 1 rfl) ?_
              have hxq := hxi (go.toNat + n) (by omega)
              refine z_iald jx jb jK.1 jP 1 0 rfl rfl (go.toNat + n) (by omega) d_Mod_countAll_44 ?_
              refine lv_dup2_11 jx jb d_Mod_countAll_45 rfl rfl ?_
              refine z_iald jx jb jK.1 jP 2 0 rfl rfl ((xi (go.toNat + n)).toNat) (by omega) d_Mod_countAll_46 ?_
              refine lv_iconst (v := iZ 1) jx jb d_Mod_countAll_47 rfl ?_
              refine z_iadd jx jb d_Mod_countAll_48 ?_
              refine z_iast jx jb jK.1 jP jD jS 2 0 rfl rfl ((xi (go.toNat + n)).toNat) (by omega) d_Mod_countAll_49 (fun H locs jP jD jS => ?_)
              have jP : va_P D classes [(r, .inr (4, [.ref ri, .int (iZ iL), .int (iZ go), .ref ro, .int (iZ oL), .ref rc, .int (iZ (o : Int)), .ref rp, .ref rs, .ref rd, .ref rk, .ref rh, .int (iZ bP), .int (iZ bR)])), (ri, .inl (cI, 6000, .inl (zA xi))), (rc, .inl (cI, 256, .inl (zA (zu x3 ((xi (go.toNat + n)).toNat) ((x3 ((xi (go.toNat + n)).toNat)) + 1)))))] H := jP
              have jD : va_D A [(r, .inr (4, [.ref ri, .int (iZ iL), .int (iZ go), .ref ro, .int (iZ oL), .ref rc, .int (iZ (o : Int)), .ref rp, .ref rs, .ref rd, .ref rk, .ref rh, .int (iZ bP), .int (iZ bR)])), (ri, .inl (cI, 6000, .inl (zA xi))), (rc, .inl (cI, 256, .inl (zA (zu x3 ((xi (go.toNat + n)).toNat) ((x3 ((xi (go.toNat + n)).toNat)) + 1)))))] := jD
              refine lv_iinc (v := iZ (go + ((n + 1 : Nat) : Int))) (lv' := [(1, .int (iZ (go + ((n + 1 : Nat) : Int)))), (0, .ref r)]) jx jb d_Mod_countAll_50 jl (k := 1) rfl (by rw [show (go + ((n + 1 : Nat) : Int)) = (go + (n : Int)) + 1 from by omega]; exact iZ_add _ _) (by decide) rfl (fun ls jl => ?_)
              refine lv_goto (tgt := 27) jx jb d_Mod_countAll_53 (by decide) ?_
              exact ih27 (n + 1) (zu x3 ((xi (go.toNat + n)).toNat) ((x3 ((xi (go.toNat + n)).toNat)) + 1)) (by omega) (by first | assumption | omega) (cnB_s h3 hxq) _ _ (jP.sub [0, 1, 2] rfl) (jD.sub [0, 1, 2] (by decide) rfl) jS _ (lv_sub jl [1, 0] rfl)
        exact hloop27 (((iL - go).toNat - 0) + 1) 0 x2 (Nat.lt_succ_self _) (by first | assumption | omega) (fun s hs => h1 s (by omega)) _ _ (jP.sub [0, 1, 2] rfl) (jD.sub [0, 1, 2] (by decide) rfl) jS _ (lv_sub jl [1, 0] rfl)
      ·
        refine lv_aload_n jx jb d_Mod_countAll_9 rfl (lv_at jl 0 rfl) ?_
        refine va_get (D := D) (ci := 4) (v := .ref rc) (C := R_Mod) (T := F_Mod) (N := 14) jx jb jts i_Mod jown jK.1 jP 0 rfl rfl 5 (by decide) (jts _ fl_Mod_16) (fun _ h9 => h9) rfl d_Mod_countAll_10 ?_
        refine lv_iload_n jx jb d_Mod_countAll_13 rfl (lv_at jl 1 rfl) ?_
        refine lv_iconst (v := iZ 0) jx jb d_Mod_countAll_14 rfl ?_
        refine z_iast jx jb jK.1 jP jD jS 2 0 rfl rfl i (by omega) d_Mod_countAll_15 (fun H locs jP jD jS => ?_)
        have jP : va_P D classes [(r, .inr (4, [.ref ri, .int (iZ iL), .int (iZ go), .ref ro, .int (iZ oL), .ref rc, .int (iZ (o : Int)), .ref rp, .ref rs, .ref rd, .ref rk, .ref rh, .int (iZ bP), .int (iZ bR)])), (ri, .inl (cI, 6000, .inl (zA xi))), (rc, .inl (cI, 256, .inl (zA (zu x2 i 0))))] H := jP
        have jD : va_D A [(r, .inr (4, [.ref ri, .int (iZ iL), .int (iZ go), .ref ro, .int (iZ oL), .ref rc, .int (iZ (o : Int)), .ref rp, .ref rs, .ref rd, .ref rk, .ref rh, .int (iZ bP), .int (iZ bR)])), (ri, .inl (cI, 6000, .inl (zA xi))), (rc, .inl (cI, 256, .inl (zA (zu x2 i 0))))] := jD
        refine lv_iinc (v := iZ ((i : Int) + 1)) (lv' := [(1, .int (iZ ((i : Int) + 1))), (0, .ref r)]) jx jb d_Mod_countAll_16 jl (k := 1) rfl (iZ_add _ _) (by decide) rfl (fun ls jl => ?_)
        refine lv_goto (tgt := 2) jx jb d_Mod_countAll_19 (by decide) ?_
        exact ih2 (i + 1) (zu x2 i 0) (by omega) (by first | assumption | omega) (zu_all (v := fun _ => 0) h1 rfl) _ _ (jP.sub [0, 1, 2] rfl) (jD.sub [0, 1, 2] (by decide) rfl) jS _ (lv_sub jl [1, 0] rfl)
  exact hloop2 ((256 - 0) + 1) 0 xc (Nat.lt_succ_self _) (by first | assumption | omega) (fun k h => absurd h (by omega)) _ _ (jP.sub [0, 1, 2] rfl) (jD.sub [0, 1, 2] (by decide) rfl) jS _ (lv_sub jl [1, 0] rfl)
abbrev rm_M_drafted : Room := { frames := 1, cells := 0, slots := 0, locals := 20 }
set_option maxHeartbeats 4000000 in
set_option maxRecDepth 100000 in
theorem c_M_drafted (l : Launch) (D : va_G) (cI cB cZ : ClassId) (r : Nat) (ri : Nat) (ro : Nat) (rc : Nat) (rp : Nat) (rs : Nat) (rd : Nat) (rk : Nat) (rh : Nat) (iL : Int) (go : Int) (oL : Int) (o : Nat) (bP : Int) (bR : Int) (xd : Nat → Int) (hdr : ∀ k, k < 256 → -1 ≤ xd k ∧ xd k ≤ 65536) : Met l y_Mod_drafted (.code y_Mod_drafted b_Mod_drafted 3 (some .int) :: zT) rm_M_drafted (zRc D classes (TY cI cB cZ) [(r, .inr (4, [.ref ri, .int (iZ iL), .int (iZ go), .ref ro, .int (iZ oL), .ref rc, .int (iZ (o : Int)), .ref rp, .ref rs, .ref rd, .ref rk, .ref rh, .int (iZ bP), .int (iZ bR)])), (rd, .inl (cI, 256, .inl (zA xd)))] [.ref r]) (zSi (fun z => z = cum xd 256)) 0 0 (fun _ => False) := by
  refine z_ofr (by decide) (Nat.le_of_ble_eq_true rfl) (Or.inl rfl) ?_
  intro p e s m args below meth c Q E jP jK jret ls jl
  obtain ⟨jx, jb, jrt, jml, jown, jts, jlk⟩ := E
  have jown : s.vm.findClass R_Mod = some m.cls := jown
  have jl : lv_has ls 3 [(0, .ref r)] := jl
  refine lv_iconst (v := iZ 0) jx jb d_Mod_drafted_0 rfl ?_
  refine lv_istore_n (lv' := [(1, .int (iZ 0)), (0, .ref r)]) jx jb d_Mod_drafted_1 rfl jl (by decide) rfl (fun ls jl => ?_)
  refine lv_iconst (v := iZ 0) jx jb d_Mod_drafted_2 rfl ?_
  refine lv_istore_n (lv' := [(2, .int (iZ 0)), (1, .int (iZ 0)), (0, .ref r)]) jx jb d_Mod_drafted_3 rfl jl (by decide) rfl (fun ls jl => ?_)
  have hloop4 : ∀ (nF : Nat) (i : Nat), 256 - i < nF → (i ≤ 256) → ∀ ls : Array Slot, lv_has ls 3 [(0, .ref r), (1, .int (iZ (cum xd i))), (2, .int (iZ (i : Int)))] → W p l e rm_M_drafted s m args below meth c s.heap [] 0 0 Q (F0 m 4 ls []) := by
    intro nF
    induction nF with
    | zero => intro i hm; exact absurd hm (Nat.not_lt_zero _)
    | succ nF ih4 =>
      intro i hm hi ls jl
      refine lv_iload_n jx jb d_Mod_drafted_4 rfl (lv_at jl 2 rfl) ?_
      refine lv_sipush (v := iZ 256) jx jb d_Mod_drafted_5 (by decide) ?_
      refine z_icmp_ge (tgt := 29) jx jb d_Mod_drafted_8 (by decide) ⟨⟨by omega, by omega⟩, ⟨by decide, by decide⟩⟩ (fun hc8 => ?_) (fun hc8 => ?_)
      ·
        refine lv_iload_n jx jb d_Mod_drafted_29 rfl (lv_at jl 1 rfl) ?_
        exact jret _ _ _ (Or.inl rfl) (by rw [show i = 256 by omega]) d_Mod_drafted_30
      ·
        refine lv_iload_n jx jb d_Mod_drafted_11 rfl (lv_at jl 1 rfl) ?_
        refine lv_aload_n jx jb d_Mod_drafted_12 rfl (lv_at jl 0 rfl) ?_
        refine va_get (D := D) (ci := 4) (v := .ref rd) (C := R_Mod) (T := F_Mod) (N := 14) jx jb jts i_Mod jown jK.1 jP 0 rfl rfl 9 (by decide) (jts _ fl_Mod_25) (fun _ h9 => h9) rfl d_Mod_drafted_13 ?_
        refine lv_iload_n jx jb d_Mod_drafted_16 rfl (lv_at jl 2 rfl) ?_
        have hdi := hdr i (by omega)
        refine z_iald jx jb jK.1 jP 1 0 rfl rfl i (by omega) d_Mod_drafted_17 ?_
        refine z_backe (va_runS (As := [.int (iZ (xd i))]) (rest := [.int (iZ (cum xd i))]) ⟨jx, jb, jml, jown, jts⟩ (c_M_weight l D cI cB cZ (xd i) (by first | assumption | omega)) (zc_S 1 jts cd_Mod_weight lk_Mod_46 st_Mod_weight in_Mod hd_Mod_weight ⟨Nat.le_of_ble_eq_true rfl, Nat.le_of_ble_eq_true rfl⟩ rfl rfl) (z_preSR jK jP [] rfl) rfl rfl jl.1 rfl (lv_room (Nat.le_of_ble_eq_true rfl)) d_Mod_drafted_18 ⟨Nat.le_of_ble_eq_true rfl, Nat.le_of_ble_eq_true rfl⟩) ?_
        refine z_iadd jx jb d_Mod_drafted_21 ?_
        refine lv_istore_n (lv' := [(1, .int (iZ ((cum xd i) + (wgt (xd i))))), (0, .ref r), (2, .int (iZ (i : Int)))]) jx jb d_Mod_drafted_22 rfl jl (by decide) rfl (fun ls jl => ?_)
        refine lv_iinc (v := iZ ((i : Int) + 1)) (lv' := [(2, .int (iZ ((i : Int) + 1))), (1, .int (iZ ((cum xd i) + (wgt (xd i))))), (0, .ref r)]) jx jb d_Mod_drafted_23 jl (k := 2) rfl (iZ_add _ _) (by decide) rfl (fun ls jl => ?_)
        refine lv_goto (tgt := 4) jx jb d_Mod_drafted_26 (by decide) ?_
        exact ih4 (i + 1) (by omega) (by first | assumption | omega) _ (lv_sub jl [2, 1, 0] rfl)
  exact hloop4 ((256 - 0) + 1) 0 (Nat.lt_succ_self _) (by first | assumption | omega) _ (lv_sub jl [2, 1, 0] rfl)
