theorem cd_Mod_numberOf : Cond.code y_Mod_numberOf b_Mod_numberOf 4 (some .int) ∈ zT := zT_of (List.mem_of_getElem? (i := 651) (by decide +kernel)) rfl
theorem hd_Mod_numberOf : y_Mod_numberOf.cls ≠ "java/lang/invoke/MethodHandle" ∧ y_Mod_numberOf.cls ≠ "java/lang/invoke/VarHandle" ∧ (parseMethodDescriptor y_Mod_numberOf.desc).map (fun d => d.parameters.length) = some 1 := by decide +kernel
theorem lk_Mod_115 : Cond.methodLink R_Mod 115 y_Mod_numberOf ∈ zT := zT_of (List.mem_of_getElem? (i := 648) (by decide +kernel)) rfl
theorem im_Mod_numberOf : Cond.instanceMethod y_Mod_numberOf ∈ zT := zT_of (List.mem_of_getElem? (i := 650) (by decide +kernel)) rfl
theorem se_Mod_numberOf : Cond.selects R_Mod y_Mod_numberOf y_Mod_numberOf ∈ zT := zT_of (List.mem_of_getElem? (i := 25) (by decide +kernel)) rfl
theorem cd_Mod_baseOf : Cond.code y_Mod_baseOf b_Mod_baseOf 2 (some .int) ∈ zT := zT_of (List.mem_of_getElem? (i := 659) (by decide +kernel)) rfl
theorem hd_Mod_baseOf : y_Mod_baseOf.cls ≠ "java/lang/invoke/MethodHandle" ∧ y_Mod_baseOf.cls ≠ "java/lang/invoke/VarHandle" ∧ (parseMethodDescriptor y_Mod_baseOf.desc).map (fun d => d.parameters.length) = some 1 := by decide +kernel
theorem lk_Mod_118 : Cond.methodLink R_Mod 118 y_Mod_baseOf ∈ zT := zT_of (List.mem_of_getElem? (i := 656) (by decide +kernel)) rfl
theorem im_Mod_baseOf : Cond.instanceMethod y_Mod_baseOf ∈ zT := zT_of (List.mem_of_getElem? (i := 658) (by decide +kernel)) rfl
theorem se_Mod_baseOf : Cond.selects R_Mod y_Mod_baseOf y_Mod_baseOf ∈ zT := zT_of (List.mem_of_getElem? (i := 27) (by decide +kernel)) rfl
theorem d_Mod_lowestCell_0 : decode b_Mod_lowestCell 0 = .ok (.iconst 0, 1) := by decide +kernel
theorem d_Mod_lowestCell_1 : decode b_Mod_lowestCell 1 = .ok (.istore_n 2, 1) := by decide +kernel
theorem d_Mod_lowestCell_2 : decode b_Mod_lowestCell 2 = .ok (.iload_n 2, 1) := by decide +kernel
theorem d_Mod_lowestCell_3 : decode b_Mod_lowestCell 3 = .ok (.iconst 1, 1) := by decide +kernel
theorem d_Mod_lowestCell_4 : decode b_Mod_lowestCell 4 = .ok (.aload_n 0, 1) := by decide +kernel
theorem d_Mod_lowestCell_5 : decode b_Mod_lowestCell 5 = .ok (.getfield 50, 3) := by decide +kernel
theorem d_Mod_lowestCell_8 : decode b_Mod_lowestCell 8 = .ok (.ishl, 1) := by decide +kernel
theorem d_Mod_lowestCell_9 : decode b_Mod_lowestCell 9 = .ok (.if_icmp .ge 21, 3) := by decide +kernel
theorem d_Mod_lowestCell_12 : decode b_Mod_lowestCell 12 = .ok (.aload_n 0, 1) := by decide +kernel
theorem d_Mod_lowestCell_13 : decode b_Mod_lowestCell 13 = .ok (.getfield 22, 3) := by decide +kernel
theorem d_Mod_lowestCell_16 : decode b_Mod_lowestCell 16 = .ok (.iload_n 2, 1) := by decide +kernel
theorem d_Mod_lowestCell_17 : decode b_Mod_lowestCell 17 = .ok (.iaload, 1) := by decide +kernel
theorem d_Mod_lowestCell_18 : decode b_Mod_lowestCell 18 = .ok (.iload_n 1, 1) := by decide +kernel
theorem d_Mod_lowestCell_19 : decode b_Mod_lowestCell 19 = .ok (.if_icmp .ne 5, 3) := by decide +kernel
theorem d_Mod_lowestCell_22 : decode b_Mod_lowestCell 22 = .ok (.iload_n 2, 1) := by decide +kernel
theorem d_Mod_lowestCell_23 : decode b_Mod_lowestCell 23 = .ok (.ireturn, 1) := by decide +kernel
theorem d_Mod_lowestCell_24 : decode b_Mod_lowestCell 24 = .ok (.iinc 2 1, 3) := by decide +kernel
theorem d_Mod_lowestCell_27 : decode b_Mod_lowestCell 27 = .ok (.goto (-25), 3) := by decide +kernel
theorem d_Mod_cellOf_0 : decode b_Mod_cellOf 0 = .ok (.iload_n 2, 1) := by decide +kernel
theorem d_Mod_cellOf_1 : decode b_Mod_cellOf 1 = .ok (.aload_n 0, 1) := by decide +kernel
theorem d_Mod_cellOf_2 : decode b_Mod_cellOf 2 = .ok (.getfield 19, 3) := by decide +kernel
theorem d_Mod_cellOf_5 : decode b_Mod_cellOf 5 = .ok (.iload_n 1, 1) := by decide +kernel
theorem d_Mod_cellOf_6 : decode b_Mod_cellOf 6 = .ok (.iaload, 1) := by decide +kernel
theorem d_Mod_cellOf_7 : decode b_Mod_cellOf 7 = .ok (.invokestatic 46, 3) := by decide +kernel
theorem d_Mod_cellOf_10 : decode b_Mod_cellOf 10 = .ok (.isub, 1) := by decide +kernel
theorem d_Mod_cellOf_11 : decode b_Mod_cellOf 11 = .ok (.istore_n 3, 1) := by decide +kernel
theorem d_Mod_cellOf_12 : decode b_Mod_cellOf 12 = .ok (.iconst 0, 1) := by decide +kernel
theorem d_Mod_cellOf_13 : decode b_Mod_cellOf 13 = .ok (.istore 4, 2) := by decide +kernel
theorem d_Mod_cellOf_15 : decode b_Mod_cellOf 15 = .ok (.iload 4, 2) := by decide +kernel
theorem d_Mod_cellOf_17 : decode b_Mod_cellOf 17 = .ok (.iconst 1, 1) := by decide +kernel
theorem d_Mod_cellOf_18 : decode b_Mod_cellOf 18 = .ok (.aload_n 0, 1) := by decide +kernel
theorem d_Mod_cellOf_19 : decode b_Mod_cellOf 19 = .ok (.getfield 50, 3) := by decide +kernel
theorem d_Mod_cellOf_22 : decode b_Mod_cellOf 22 = .ok (.ishl, 1) := by decide +kernel
theorem d_Mod_cellOf_23 : decode b_Mod_cellOf 23 = .ok (.if_icmp .ge 30, 3) := by decide +kernel
theorem d_Mod_cellOf_26 : decode b_Mod_cellOf 26 = .ok (.aload_n 0, 1) := by decide +kernel
theorem d_Mod_cellOf_27 : decode b_Mod_cellOf 27 = .ok (.getfield 22, 3) := by decide +kernel
theorem d_Mod_cellOf_30 : decode b_Mod_cellOf 30 = .ok (.iload 4, 2) := by decide +kernel
theorem d_Mod_cellOf_32 : decode b_Mod_cellOf 32 = .ok (.iaload, 1) := by decide +kernel
theorem d_Mod_cellOf_33 : decode b_Mod_cellOf 33 = .ok (.iload_n 1, 1) := by decide +kernel
theorem d_Mod_cellOf_34 : decode b_Mod_cellOf 34 = .ok (.if_icmp .ne 13, 3) := by decide +kernel
theorem d_Mod_cellOf_37 : decode b_Mod_cellOf 37 = .ok (.iload_n 3, 1) := by decide +kernel
theorem d_Mod_cellOf_38 : decode b_Mod_cellOf 38 = .ok (.ifCond .ne 6, 3) := by decide +kernel
theorem d_Mod_cellOf_41 : decode b_Mod_cellOf 41 = .ok (.iload 4, 2) := by decide +kernel
theorem d_Mod_cellOf_43 : decode b_Mod_cellOf 43 = .ok (.ireturn, 1) := by decide +kernel
theorem d_Mod_cellOf_44 : decode b_Mod_cellOf 44 = .ok (.iinc 3 (-1), 3) := by decide +kernel
theorem d_Mod_cellOf_47 : decode b_Mod_cellOf 47 = .ok (.iinc 4 1, 3) := by decide +kernel
theorem d_Mod_cellOf_50 : decode b_Mod_cellOf 50 = .ok (.goto (-35), 3) := by decide +kernel
theorem d_Mod_numberFor_0 : decode b_Mod_numberFor 0 = .ok (.aload_n 0, 1) := by decide +kernel
theorem d_Mod_numberFor_1 : decode b_Mod_numberFor 1 = .ok (.getfield 19, 3) := by decide +kernel
theorem d_Mod_numberFor_4 : decode b_Mod_numberFor 4 = .ok (.iload_n 1, 1) := by decide +kernel
theorem d_Mod_numberFor_5 : decode b_Mod_numberFor 5 = .ok (.iaload, 1) := by decide +kernel
theorem d_Mod_numberFor_6 : decode b_Mod_numberFor 6 = .ok (.invokestatic 46, 3) := by decide +kernel
theorem d_Mod_numberFor_9 : decode b_Mod_numberFor 9 = .ok (.istore_n 3, 1) := by decide +kernel
theorem d_Mod_numberFor_10 : decode b_Mod_numberFor 10 = .ok (.iconst 0, 1) := by decide +kernel
theorem d_Mod_numberFor_11 : decode b_Mod_numberFor 11 = .ok (.istore 4, 2) := by decide +kernel
theorem d_Mod_numberFor_13 : decode b_Mod_numberFor 13 = .ok (.iload 4, 2) := by decide +kernel
theorem d_Mod_numberFor_15 : decode b_Mod_numberFor 15 = .ok (.aload_n 0, 1) := by decide +kernel
theorem d_Mod_numberFor_16 : decode b_Mod_numberFor 16 = .ok (.getfield 50, 3) := by decide +kernel
theorem d_Mod_numberFor_19 : decode b_Mod_numberFor 19 = .ok (.if_icmp .gt 50, 3) := by decide +kernel
theorem d_Mod_numberFor_22 : decode b_Mod_numberFor 22 = .ok (.iload_n 2, 1) := by decide +kernel
theorem d_Mod_numberFor_23 : decode b_Mod_numberFor 23 = .ok (.iconst 1, 1) := by decide +kernel
theorem d_Mod_numberFor_24 : decode b_Mod_numberFor 24 = .ok (.aload_n 0, 1) := by decide +kernel
theorem d_Mod_numberFor_25 : decode b_Mod_numberFor 25 = .ok (.getfield 50, 3) := by decide +kernel
theorem d_Mod_numberFor_28 : decode b_Mod_numberFor 28 = .ok (.ishl, 1) := by decide +kernel
theorem d_Mod_numberFor_29 : decode b_Mod_numberFor 29 = .ok (.iadd, 1) := by decide +kernel
theorem d_Mod_numberFor_30 : decode b_Mod_numberFor 30 = .ok (.iload 4, 2) := by decide +kernel
theorem d_Mod_numberFor_32 : decode b_Mod_numberFor 32 = .ok (.ishr, 1) := by decide +kernel
theorem d_Mod_numberFor_33 : decode b_Mod_numberFor 33 = .ok (.istore 5, 2) := by decide +kernel
theorem d_Mod_numberFor_35 : decode b_Mod_numberFor 35 = .ok (.iload 5, 2) := by decide +kernel
theorem d_Mod_numberFor_37 : decode b_Mod_numberFor 37 = .ok (.iload_n 3, 1) := by decide +kernel
theorem d_Mod_numberFor_38 : decode b_Mod_numberFor 38 = .ok (.if_icmp .lt 25, 3) := by decide +kernel
theorem d_Mod_numberFor_41 : decode b_Mod_numberFor 41 = .ok (.iload 5, 2) := by decide +kernel
theorem d_Mod_numberFor_43 : decode b_Mod_numberFor 43 = .ok (.iconst 2, 1) := by decide +kernel
theorem d_Mod_numberFor_44 : decode b_Mod_numberFor 44 = .ok (.iload_n 3, 1) := by decide +kernel
theorem d_Mod_numberFor_45 : decode b_Mod_numberFor 45 = .ok (.imul, 1) := by decide +kernel
theorem d_Mod_numberFor_46 : decode b_Mod_numberFor 46 = .ok (.if_icmp .ge 17, 3) := by decide +kernel
theorem d_Mod_numberFor_49 : decode b_Mod_numberFor 49 = .ok (.aload_n 0, 1) := by decide +kernel
theorem d_Mod_numberFor_50 : decode b_Mod_numberFor 50 = .ok (.iload 5, 2) := by decide +kernel
theorem d_Mod_numberFor_52 : decode b_Mod_numberFor 52 = .ok (.invokevirtual 112, 3) := by decide +kernel
theorem d_Mod_numberFor_55 : decode b_Mod_numberFor 55 = .ok (.iload 4, 2) := by decide +kernel
theorem d_Mod_numberFor_57 : decode b_Mod_numberFor 57 = .ok (.if_icmp .ne 6, 3) := by decide +kernel
theorem d_Mod_numberFor_60 : decode b_Mod_numberFor 60 = .ok (.iload 5, 2) := by decide +kernel
theorem d_Mod_numberFor_62 : decode b_Mod_numberFor 62 = .ok (.ireturn, 1) := by decide +kernel
theorem d_Mod_numberFor_63 : decode b_Mod_numberFor 63 = .ok (.iinc 4 1, 3) := by decide +kernel
theorem d_Mod_numberFor_66 : decode b_Mod_numberFor 66 = .ok (.goto (-53), 3) := by decide +kernel
theorem d_Mod_cell_0 : decode b_Mod_cell 0 = .ok (.aload_n 0, 1) := by decide +kernel
theorem d_Mod_cell_1 : decode b_Mod_cell 1 = .ok (.getfield 50, 3) := by decide +kernel
theorem d_Mod_cell_4 : decode b_Mod_cell 4 = .ok (.ifCond .eq 26, 3) := by decide +kernel
theorem d_Mod_cell_7 : decode b_Mod_cell 7 = .ok (.iload_n 1, 1) := by decide +kernel
theorem d_Mod_cell_8 : decode b_Mod_cell 8 = .ok (.ifCond .lt 22, 3) := by decide +kernel
theorem d_Mod_cell_11 : decode b_Mod_cell 11 = .ok (.iload_n 1, 1) := by decide +kernel
theorem d_Mod_cell_12 : decode b_Mod_cell 12 = .ok (.iconst 1, 1) := by decide +kernel
theorem d_Mod_cell_13 : decode b_Mod_cell 13 = .ok (.aload_n 0, 1) := by decide +kernel
theorem d_Mod_cell_14 : decode b_Mod_cell 14 = .ok (.getfield 50, 3) := by decide +kernel
theorem d_Mod_cell_17 : decode b_Mod_cell 17 = .ok (.ishl, 1) := by decide +kernel
theorem d_Mod_cell_18 : decode b_Mod_cell 18 = .ok (.if_icmp .ge 12, 3) := by decide +kernel
theorem d_Mod_cell_21 : decode b_Mod_cell 21 = .ok (.iload_n 2, 1) := by decide +kernel
theorem d_Mod_cell_22 : decode b_Mod_cell 22 = .ok (.ifCond .lt 8, 3) := by decide +kernel
theorem d_Mod_cell_25 : decode b_Mod_cell 25 = .ok (.iload_n 2, 1) := by decide +kernel
theorem d_Mod_cell_26 : decode b_Mod_cell 26 = .ok (.iconst 2, 1) := by decide +kernel
theorem d_Mod_cell_27 : decode b_Mod_cell 27 = .ok (.if_icmp .le 5, 3) := by decide +kernel
theorem d_Mod_cell_30 : decode b_Mod_cell 30 = .ok (.iconst (-1), 1) := by decide +kernel
theorem d_Mod_cell_31 : decode b_Mod_cell 31 = .ok (.ireturn, 1) := by decide +kernel
theorem d_Mod_cell_32 : decode b_Mod_cell 32 = .ok (.iload_n 2, 1) := by decide +kernel
theorem d_Mod_cell_33 : decode b_Mod_cell 33 = .ok (.ifCond .ne 12, 3) := by decide +kernel
theorem d_Mod_cell_36 : decode b_Mod_cell 36 = .ok (.aload_n 0, 1) := by decide +kernel
theorem d_Mod_cell_37 : decode b_Mod_cell 37 = .ok (.getfield 22, 3) := by decide +kernel
theorem d_Mod_cell_40 : decode b_Mod_cell 40 = .ok (.iload_n 1, 1) := by decide +kernel
theorem d_Mod_cell_41 : decode b_Mod_cell 41 = .ok (.iaload, 1) := by decide +kernel
theorem d_Mod_cell_42 : decode b_Mod_cell 42 = .ok (.goto 29, 3) := by decide +kernel
theorem d_Mod_cell_45 : decode b_Mod_cell 45 = .ok (.iload_n 2, 1) := by decide +kernel
theorem d_Mod_cell_46 : decode b_Mod_cell 46 = .ok (.iconst 1, 1) := by decide +kernel
theorem d_Mod_cell_47 : decode b_Mod_cell 47 = .ok (.if_icmp .ne 15, 3) := by decide +kernel
theorem d_Mod_cell_50 : decode b_Mod_cell 50 = .ok (.aload_n 0, 1) := by decide +kernel
theorem d_Mod_cell_51 : decode b_Mod_cell 51 = .ok (.aload_n 0, 1) := by decide +kernel
theorem d_Mod_cell_52 : decode b_Mod_cell 52 = .ok (.iload_n 1, 1) := by decide +kernel
theorem d_Mod_cell_53 : decode b_Mod_cell 53 = .ok (.invokevirtual 115, 3) := by decide +kernel
theorem d_Mod_cell_56 : decode b_Mod_cell 56 = .ok (.invokevirtual 112, 3) := by decide +kernel
theorem d_Mod_cell_59 : decode b_Mod_cell 59 = .ok (.goto 12, 3) := by decide +kernel
theorem d_Mod_cell_62 : decode b_Mod_cell 62 = .ok (.aload_n 0, 1) := by decide +kernel
theorem d_Mod_cell_63 : decode b_Mod_cell 63 = .ok (.aload_n 0, 1) := by decide +kernel
theorem d_Mod_cell_64 : decode b_Mod_cell 64 = .ok (.iload_n 1, 1) := by decide +kernel
theorem d_Mod_cell_65 : decode b_Mod_cell 65 = .ok (.invokevirtual 115, 3) := by decide +kernel
theorem d_Mod_cell_68 : decode b_Mod_cell 68 = .ok (.invokevirtual 118, 3) := by decide +kernel
theorem d_Mod_cell_71 : decode b_Mod_cell 71 = .ok (.ireturn, 1) := by decide +kernel
abbrev rm_M_lowestCell : Room := { frames := 0, cells := 0, slots := 0, locals := 0 }
set_option maxHeartbeats 4000000 in
set_option maxRecDepth 100000 in
theorem c_M_lowestCell (l : Launch) (D : va_G) (cI cB cZ : ClassId) (r : Nat) (ri : Nat) (ro : Nat) (rc : Nat) (rp : Nat) (rs : Nat) (rd : Nat) (rk : Nat) (rh : Nat) (iL : Int) (go : Int) (oL : Int) (o : Nat) (bP : Int) (bR : Int) (xs : Nat → Int) (x : Int) (ho : o ≤ 12) (hxs : ∀ k, k < 4096 → 0 ≤ xs k ∧ xs k < 256) (hx1 : 0 ≤ x ∧ x < 256) (hex : 0 < cntS xs x (2 ^ o)) : Met l y_Mod_lowestCell (.code y_Mod_lowestCell b_Mod_lowestCell 3 (some .int) :: zT) rm_M_lowestCell (zRc D classes (TY cI cB cZ) [(r, .inr (4, [.ref ri, .int (iZ iL), .int (iZ go), .ref ro, .int (iZ oL), .ref rc, .int (iZ (o : Int)), .ref rp, .ref rs, .ref rd, .ref rk, .ref rh, .int (iZ bP), .int (iZ bR)])), (rs, .inl (cI, 4096, .inl (zA xs)))] [.ref r, .int (iZ x)]) (zSi (fun z => ∃ k : Nat, z = (k : Int) ∧ (k : Int) < 2 ^ o ∧ xs k = x ∧ cntS xs x k = 0)) 0 0 (fun _ => False) := by
  refine z_ofr (by decide) (Nat.le_of_ble_eq_true rfl) (Or.inl rfl) ?_
  intro p e s m args below meth c Q E jP jK jret ls jl
  obtain ⟨jx, jb, jrt, jml, jown, jts, jlk⟩ := E
  have jown : s.vm.findClass R_Mod = some m.cls := jown
  have hp12 := p2_le ho
  have hp0 := p2_pos o
  have hpn := p2n o
  have jl : lv_has ls 3 [(0, .ref r), (1, .int (iZ x))] := jl
  refine lv_iconst (v := iZ 0) jx jb d_Mod_lowestCell_0 rfl ?_
  refine lv_istore_n (lv' := [(2, .int (iZ 0)), (0, .ref r), (1, .int (iZ x))]) jx jb d_Mod_lowestCell_1 rfl jl (by decide) rfl (fun ls jl => ?_)
  have hloop2 : ∀ (nF : Nat) (j : Nat), 2 ^ o - j < nF → ((j : Int) ≤ 2 ^ o) → (cntS xs x j = 0) → ∀ ls : Array Slot, lv_has ls 3 [(0, .ref r), (1, .int (iZ x)), (2, .int (iZ (j : Int)))] → W p l e rm_M_lowestCell s m args below meth c s.heap [] 0 0 Q (F0 m 2 ls []) := by
    intro nF
    induction nF with
    | zero => intro j hm; exact absurd hm (Nat.not_lt_zero _)
    | succ nF ih2 =>
      intro j hm hj h0 ls jl
      refine lv_iload_n jx jb d_Mod_lowestCell_2 rfl (lv_at jl 2 rfl) ?_
      refine lv_iconst (v := iZ 1) jx jb d_Mod_lowestCell_3 rfl ?_
      refine lv_aload_n jx jb d_Mod_lowestCell_4 rfl (lv_at jl 0 rfl) ?_
      refine va_get (D := D) (ci := 4) (v := .int (iZ (o : Int))) (C := R_Mod) (T := F_Mod) (N := 14) jx jb jts i_Mod jown jK.1 jP 0 rfl rfl 6 (by decide) (jts _ fl_Mod_50) (fun _ h9 => h9) rfl d_Mod_lowestCell_5 ?_
      refine z_ishl jx jb d_Mod_lowestCell_8 o (2 ^ o) (rfl) (by omega) ?_
      refine z_top (2 ^ o) (Int.one_mul _) ?_
      refine z_icmp_ge (tgt := 30) jx jb d_Mod_lowestCell_9 (by decide) ⟨⟨by omega, by omega⟩, ⟨by omega, by omega⟩⟩ (fun hc9 => ?_) (fun hc9 => ?_)
      ·
        exfalso
        obtain rfl : j = 2 ^ o := by omega
        omega
      ·
        refine lv_aload_n jx jb d_Mod_lowestCell_12 rfl (lv_at jl 0 rfl) ?_
        refine va_get (D := D) (ci := 4) (v := .ref rs) (C := R_Mod) (T := F_Mod) (N := 14) jx jb jts i_Mod jown jK.1 jP 0 rfl rfl 8 (by decide) (jts _ fl_Mod_22) (fun _ h9 => h9) rfl d_Mod_lowestCell_13 ?_
        refine lv_iload_n jx jb d_Mod_lowestCell_16 rfl (lv_at jl 2 rfl) ?_
        refine z_iald jx jb jK.1 jP 1 0 rfl rfl j (by omega) d_Mod_lowestCell_17 ?_
        refine lv_iload_n jx jb d_Mod_lowestCell_18 rfl (lv_at jl 1 rfl) ?_
        have hsj := hxs j (by omega)
        refine z_icmp_ne (tgt := 24) jx jb d_Mod_lowestCell_19 (by decide) ⟨⟨by omega, by omega⟩, ⟨by omega, by omega⟩⟩ (fun hc19 => ?_) (fun hc19 => ?_)
        ·
          refine lv_iinc (v := iZ ((j : Int) + 1)) (lv' := [(2, .int (iZ ((j : Int) + 1))), (0, .ref r), (1, .int (iZ x))]) jx jb d_Mod_lowestCell_24 jl (k := 2) rfl (iZ_add _ _) (by decide) rfl (fun ls jl => ?_)
          refine lv_goto (tgt := 2) jx jb d_Mod_lowestCell_27 (by decide) ?_
          exact ih2 (j + 1) (by omega) (by first | assumption | omega) (by rw [cntS_n hc19]; exact h0) _ (lv_sub jl [1, 2, 0] rfl)
        ·
          refine lv_iload_n jx jb d_Mod_lowestCell_22 rfl (lv_at jl 2 rfl) ?_
          exact jret _ _ _ (Or.inl rfl) (⟨j, rfl, by omega, hc19, h0⟩) d_Mod_lowestCell_23
  exact hloop2 ((2 ^ o - 0) + 1) 0 (Nat.lt_succ_self _) (by first | assumption | omega) (rfl) _ (lv_sub jl [1, 2, 0] rfl)
abbrev rm_M_cellOf : Room := { frames := 1, cells := 0, slots := 0, locals := 20 }
set_option maxHeartbeats 4000000 in
set_option maxRecDepth 100000 in
theorem c_M_cellOf (l : Launch) (D : va_G) (cI cB cZ : ClassId) (r : Nat) (ri : Nat) (ro : Nat) (rc : Nat) (rp : Nat) (rs : Nat) (rd : Nat) (rk : Nat) (rh : Nat) (iL : Int) (go : Int) (oL : Int) (o : Nat) (bP : Int) (bR : Int) (xp : Nat → Int) (xs : Nat → Int) (x : Int) (y : Int) (ho : o ≤ 12) (hpr : ∀ k, k < 256 → -1 ≤ xp k ∧ xp k ≤ 65536) (hxs : ∀ k, k < 4096 → 0 ≤ xs k ∧ xs k < 256) (hx1 : 0 ≤ x ∧ x < 256) (hy : 0 ≤ y - wgt (xp x.toNat) ∧ y - wgt (xp x.toNat) < cntS xs x (2 ^ o) ∧ y < 1000000) : Met l y_Mod_cellOf (.code y_Mod_cellOf b_Mod_cellOf 5 (some .int) :: zT) rm_M_cellOf (zRc D classes (TY cI cB cZ) [(r, .inr (4, [.ref ri, .int (iZ iL), .int (iZ go), .ref ro, .int (iZ oL), .ref rc, .int (iZ (o : Int)), .ref rp, .ref rs, .ref rd, .ref rk, .ref rh, .int (iZ bP), .int (iZ bR)])), (rp, .inl (cI, 256, .inl (zA xp))), (rs, .inl (cI, 4096, .inl (zA xs)))] [.ref r, .int (iZ x), .int (iZ y)]) (zSi (fun z => ∃ k : Nat, z = (k : Int) ∧ (k : Int) < 2 ^ o ∧ xs k = x ∧ cntS xs x k = y - wgt (xp x.toNat))) 0 0 (fun _ => False) := by
  refine z_ofr (by decide) (Nat.le_of_ble_eq_true rfl) (Or.inl rfl) ?_
  intro p e s m args below meth c Q E jP jK jret ls jl
  obtain ⟨jx, jb, jrt, jml, jown, jts, jlk⟩ := E
  have jown : s.vm.findClass R_Mod = some m.cls := jown
  have hp12 := p2_le ho
  have hp0 := p2_pos o
  have hpn := p2n o
  have hpx := hpr x.toNat (by omega)
  have hwb := wgt_b hpx
  have jl : lv_has ls 5 [(0, .ref r), (1, .int (iZ x)), (2, .int (iZ y))] := jl
  refine lv_iload_n jx jb d_Mod_cellOf_0 rfl (lv_at jl 2 rfl) ?_
  refine lv_aload_n jx jb d_Mod_cellOf_1 rfl (lv_at jl 0 rfl) ?_
  refine va_get (D := D) (ci := 4) (v := .ref rp) (C := R_Mod) (T := F_Mod) (N := 14) jx jb jts i_Mod jown jK.1 jP 0 rfl rfl 7 (by decide) (jts _ fl_Mod_19) (fun _ h9 => h9) rfl d_Mod_cellOf_2 ?_
  refine lv_iload_n jx jb d_Mod_cellOf_5 rfl (lv_at jl 1 rfl) ?_
  refine z_iald jx jb jK.1 jP 1 0 rfl rfl x.toNat (by omega) d_Mod_cellOf_6 ?_
  refine z_backe (va_runS (As := [.int (iZ (xp x.toNat))]) (rest := [.int (iZ y)]) ⟨jx, jb, jml, jown, jts⟩ (c_M_weight l D cI cB cZ (xp x.toNat) (by first | assumption | omega)) (zc_S 1 jts cd_Mod_weight lk_Mod_46 st_Mod_weight in_Mod hd_Mod_weight ⟨Nat.le_of_ble_eq_true rfl, Nat.le_of_ble_eq_true rfl⟩ rfl rfl) (z_preSR jK jP [] rfl) rfl rfl jl.1 rfl (lv_room (Nat.le_of_ble_eq_true rfl)) d_Mod_cellOf_7 ⟨Nat.le_of_ble_eq_true rfl, Nat.le_of_ble_eq_true rfl⟩) ?_
  refine z_isub jx jb d_Mod_cellOf_10 ?_
  refine lv_istore_n (lv' := [(3, .int (iZ (y - (wgt (xp x.toNat))))), (0, .ref r), (1, .int (iZ x)), (2, .int (iZ y))]) jx jb d_Mod_cellOf_11 rfl jl (by decide) rfl (fun ls jl => ?_)
  refine lv_iconst (v := iZ 0) jx jb d_Mod_cellOf_12 rfl ?_
  refine lv_istore (lv' := [(4, .int (iZ 0)), (3, .int (iZ (y - (wgt (xp x.toNat))))), (0, .ref r), (1, .int (iZ x)), (2, .int (iZ y))]) jx jb d_Mod_cellOf_13 jl (by decide) rfl (fun ls jl => ?_)
  have hloop15 : ∀ (nF : Nat) (j : Nat) (v : Int), 2 ^ o - j < nF → ((j : Int) ≤ 2 ^ o) → (v = y - wgt (xp x.toNat) - cntS xs x j ∧ 0 ≤ v) → ∀ ls : Array Slot, lv_has ls 5 [(0, .ref r), (1, .int (iZ x)), (2, .int (iZ y)), (3, .int (iZ v)), (4, .int (iZ (j : Int)))] → W p l e rm_M_cellOf s m args below meth c s.heap [] 0 0 Q (F0 m 15 ls []) := by
    intro nF
    induction nF with
    | zero => intro j v hm; exact absurd hm (Nat.not_lt_zero _)
    | succ nF ih15 =>
      intro j v hm hj h0 ls jl
      refine lv_iload jx jb d_Mod_cellOf_15 (lv_at jl 4 rfl) ?_
      refine lv_iconst (v := iZ 1) jx jb d_Mod_cellOf_17 rfl ?_
      refine lv_aload_n jx jb d_Mod_cellOf_18 rfl (lv_at jl 0 rfl) ?_
      refine va_get (D := D) (ci := 4) (v := .int (iZ (o : Int))) (C := R_Mod) (T := F_Mod) (N := 14) jx jb jts i_Mod jown jK.1 jP 0 rfl rfl 6 (by decide) (jts _ fl_Mod_50) (fun _ h9 => h9) rfl d_Mod_cellOf_19 ?_
      refine z_ishl jx jb d_Mod_cellOf_22 o (2 ^ o) (rfl) (by omega) ?_
      refine z_top (2 ^ o) (Int.one_mul _) ?_
      refine z_icmp_ge (tgt := 53) jx jb d_Mod_cellOf_23 (by decide) ⟨⟨by omega, by omega⟩, ⟨by omega, by omega⟩⟩ (fun hc23 => ?_) (fun hc23 => ?_)
      ·
        exfalso
        obtain rfl : j = 2 ^ o := by omega
        omega
      ·
        refine lv_aload_n jx jb d_Mod_cellOf_26 rfl (lv_at jl 0 rfl) ?_
        refine va_get (D := D) (ci := 4) (v := .ref rs) (C := R_Mod) (T := F_Mod) (N := 14) jx jb jts i_Mod jown jK.1 jP 0 rfl rfl 8 (by decide) (jts _ fl_Mod_22) (fun _ h9 => h9) rfl d_Mod_cellOf_27 ?_
        refine lv_iload jx jb d_Mod_cellOf_30 (lv_at jl 4 rfl) ?_
        refine z_iald jx jb jK.1 jP 2 0 rfl rfl j (by omega) d_Mod_cellOf_32 ?_
        refine lv_iload_n jx jb d_Mod_cellOf_33 rfl (lv_at jl 1 rfl) ?_
        have hsj := hxs j (by omega)
        refine z_icmp_ne (tgt := 47) jx jb d_Mod_cellOf_34 (by decide) ⟨⟨by omega, by omega⟩, ⟨by omega, by omega⟩⟩ (fun hc34 => ?_) (fun hc34 => ?_)
        ·
          refine lv_iinc (v := iZ ((j : Int) + 1)) (lv' := [(4, .int (iZ ((j : Int) + 1))), (0, .ref r), (1, .int (iZ x)), (2, .int (iZ y)), (3, .int (iZ v))]) jx jb d_Mod_cellOf_47 jl (k := 4) rfl (iZ_add _ _) (by decide) rfl (fun ls jl => ?_)
          refine lv_goto (tgt := 15) jx jb d_Mod_cellOf_50 (by decide) ?_
          exact ih15 (j + 1) v (by omega) (by first | assumption | omega) (by first | (rw [cntS_n hc34]; exact h0) | (rw [cntS_s hc34]; omega)) _ (lv_sub jl [1, 2, 3, 4, 0] rfl)
        ·
          refine lv_iload_n jx jb d_Mod_cellOf_37 rfl (lv_at jl 3 rfl) ?_
          have hcb := cntS_lo xs x j
          refine z_if_ne (tgt := 44) jx jb d_Mod_cellOf_38 (by decide) ⟨by omega, by omega⟩ (fun hc38 => ?_) (fun hc38 => ?_)
          ·
            refine lv_iinc (v := iZ (v + (-1))) (lv' := [(3, .int (iZ (v + (-1)))), (0, .ref r), (1, .int (iZ x)), (2, .int (iZ y)), (4, .int (iZ (j : Int)))]) jx jb d_Mod_cellOf_44 jl (k := 3) rfl (iZ_add _ _) (by decide) rfl (fun ls jl => ?_)
            refine lv_iinc (v := iZ ((j : Int) + 1)) (lv' := [(4, .int (iZ ((j : Int) + 1))), (3, .int (iZ (v + (-1)))), (0, .ref r), (1, .int (iZ x)), (2, .int (iZ y))]) jx jb d_Mod_cellOf_47 jl (k := 4) rfl (iZ_add _ _) (by decide) rfl (fun ls jl => ?_)
            refine lv_goto (tgt := 15) jx jb d_Mod_cellOf_50 (by decide) ?_
            exact ih15 (j + 1) (v + (-1)) (by omega) (by first | assumption | omega) (by first | (rw [cntS_n hc34]; exact h0) | (rw [cntS_s hc34]; omega)) _ (lv_sub jl [2, 3, 4, 1, 0] rfl)
          ·
            refine lv_iload jx jb d_Mod_cellOf_41 (lv_at jl 4 rfl) ?_
            exact jret _ _ _ (Or.inl rfl) (⟨j, rfl, by omega, hc34, by omega⟩) d_Mod_cellOf_43
  exact hloop15 ((2 ^ o - 0) + 1) 0 (y - (wgt (xp x.toNat))) (Nat.lt_succ_self _) (by first | assumption | omega) (⟨(Int.sub_zero _).symm, by omega⟩) _ (lv_sub jl [2, 3, 4, 1, 0] rfl)
abbrev rm_M_numberFor : Room := { frames := 1, cells := 0, slots := 0, locals := 22 }
set_option maxHeartbeats 4000000 in
set_option maxRecDepth 100000 in
theorem c_M_numberFor (l : Launch) (D : va_G) (cI cB cZ : ClassId) (r : Nat) (ri : Nat) (ro : Nat) (rc : Nat) (rp : Nat) (rs : Nat) (rd : Nat) (rk : Nat) (rh : Nat) (iL : Int) (go : Int) (oL : Int) (o : Nat) (bP : Int) (bR : Int) (xp : Nat → Int) (x : Int) (y : Int) (ho : o ≤ 12) (hpr : ∀ k, k < 256 → -1 ≤ xp k ∧ xp k ≤ 65536) (hx1 : 0 ≤ x ∧ x < 256) (hy : 0 ≤ y ∧ y < 2 ^ o) (hw : 1 ≤ wgt (xp x.toNat) ∧ wgt (xp x.toNat) ≤ 2 ^ o) : Met l y_Mod_numberFor (.code y_Mod_numberFor b_Mod_numberFor 6 (some .int) :: zT) rm_M_numberFor (zRc D classes (TY cI cB cZ) [(r, .inr (4, [.ref ri, .int (iZ iL), .int (iZ go), .ref ro, .int (iZ oL), .ref rc, .int (iZ (o : Int)), .ref rp, .ref rs, .ref rd, .ref rk, .ref rh, .int (iZ bP), .int (iZ bR)])), (rp, .inl (cI, 256, .inl (zA xp)))] [.ref r, .int (iZ x), .int (iZ y)]) (zSi (fun z => ∃ n : Nat, n ≤ o ∧ z = (y + 2 ^ o) / 2 ^ n ∧ wgt (xp x.toNat) ≤ z ∧ z < 2 * wgt (xp x.toNat))) 0 0 (fun _ => False) := by
  refine z_ofr (by decide) (Nat.le_of_ble_eq_true rfl) (Or.inl rfl) ?_
  intro p e s m args below meth c Q E jP jK jret ls jl
  obtain ⟨jx, jb, jrt, jml, jown, jts, jlk⟩ := E
  have jown : s.vm.findClass R_Mod = some m.cls := jown
  have hp12 := p2_le ho
  have hp0 := p2_pos o
  have hps := p2_s o
  have hpx := hpr x.toNat (by omega)
  have jl : lv_has ls 6 [(0, .ref r), (1, .int (iZ x)), (2, .int (iZ y))] := jl
  refine lv_aload_n jx jb d_Mod_numberFor_0 rfl (lv_at jl 0 rfl) ?_
  refine va_get (D := D) (ci := 4) (v := .ref rp) (C := R_Mod) (T := F_Mod) (N := 14) jx jb jts i_Mod jown jK.1 jP 0 rfl rfl 7 (by decide) (jts _ fl_Mod_19) (fun _ h9 => h9) rfl d_Mod_numberFor_1 ?_
  refine lv_iload_n jx jb d_Mod_numberFor_4 rfl (lv_at jl 1 rfl) ?_
  refine z_iald jx jb jK.1 jP 1 0 rfl rfl x.toNat (by omega) d_Mod_numberFor_5 ?_
  refine z_backe (va_runS (As := [.int (iZ (xp x.toNat))]) (rest := []) ⟨jx, jb, jml, jown, jts⟩ (c_M_weight l D cI cB cZ (xp x.toNat) (by first | assumption | omega)) (zc_S 1 jts cd_Mod_weight lk_Mod_46 st_Mod_weight in_Mod hd_Mod_weight ⟨Nat.le_of_ble_eq_true rfl, Nat.le_of_ble_eq_true rfl⟩ rfl rfl) (z_preSR jK jP [] rfl) rfl rfl jl.1 rfl (lv_room (Nat.le_of_ble_eq_true rfl)) d_Mod_numberFor_6 ⟨Nat.le_of_ble_eq_true rfl, Nat.le_of_ble_eq_true rfl⟩) ?_
  refine lv_istore_n (lv' := [(3, .int (iZ (wgt (xp x.toNat)))), (0, .ref r), (1, .int (iZ x)), (2, .int (iZ y))]) jx jb d_Mod_numberFor_9 rfl jl (by decide) rfl (fun ls jl => ?_)
  refine lv_iconst (v := iZ 0) jx jb d_Mod_numberFor_10 rfl ?_
  refine lv_istore (lv' := [(4, .int (iZ 0)), (3, .int (iZ (wgt (xp x.toNat)))), (0, .ref r), (1, .int (iZ x)), (2, .int (iZ y))]) jx jb d_Mod_numberFor_11 jl (by decide) rfl (fun ls jl => ?_)
  have hloop13 : ∀ (nF : Nat) (b1 : Nat), o + 1 - b1 < nF → (b1 ≤ o + 1) → (∀ n : Nat, n < b1 → ¬ (wgt (xp x.toNat) ≤ (y + 2 ^ o) / 2 ^ n ∧ (y + 2 ^ o) / 2 ^ n < 2 * wgt (xp x.toNat))) → ∀ ls : Array Slot, lv_has ls 6 [(0, .ref r), (1, .int (iZ x)), (2, .int (iZ y)), (3, .int (iZ (wgt (xp x.toNat)))), (4, .int (iZ (b1 : Int)))] → W p l e rm_M_numberFor s m args below meth c s.heap [] 0 0 Q (F0 m 13 ls []) := by
    intro nF
    induction nF with
    | zero => intro b1 hm; exact absurd hm (Nat.not_lt_zero _)
    | succ nF ih13 =>
      intro b1 hm hb1 h0 ls jl
      refine lv_iload jx jb d_Mod_numberFor_13 (lv_at jl 4 rfl) ?_
      refine lv_aload_n jx jb d_Mod_numberFor_15 rfl (lv_at jl 0 rfl) ?_
      refine va_get (D := D) (ci := 4) (v := .int (iZ (o : Int))) (C := R_Mod) (T := F_Mod) (N := 14) jx jb jts i_Mod jown jK.1 jP 0 rfl rfl 6 (by decide) (jts _ fl_Mod_50) (fun _ h9 => h9) rfl d_Mod_numberFor_16 ?_
      refine z_icmp_gt (tgt := 69) jx jb d_Mod_numberFor_19 (by decide) ⟨⟨by omega, by omega⟩, ⟨by omega, by omega⟩⟩ (fun hc19 => ?_) (fun hc19 => ?_)
      ·
        exfalso
        obtain ⟨n, hn, hn1, hn2⟩ := enc_ex (wh := y + 2 ^ o) (w := wgt (xp x.toNat)) (o := o) (by omega) (by omega) hw.1 hw.2
        exact h0 n (by omega) ⟨hn1, hn2⟩
      ·
        refine lv_iload_n jx jb d_Mod_numberFor_22 rfl (lv_at jl 2 rfl) ?_
        refine lv_iconst (v := iZ 1) jx jb d_Mod_numberFor_23 rfl ?_
        refine lv_aload_n jx jb d_Mod_numberFor_24 rfl (lv_at jl 0 rfl) ?_
        refine va_get (D := D) (ci := 4) (v := .int (iZ (o : Int))) (C := R_Mod) (T := F_Mod) (N := 14) jx jb jts i_Mod jown jK.1 jP 0 rfl rfl 6 (by decide) (jts _ fl_Mod_50) (fun _ h9 => h9) rfl d_Mod_numberFor_25 ?_
        refine z_ishl jx jb d_Mod_numberFor_28 o (2 ^ o) (rfl) (by omega) ?_
        refine z_top (2 ^ o) (Int.one_mul _) ?_
        refine z_iadd jx jb d_Mod_numberFor_29 ?_
        refine lv_iload jx jb d_Mod_numberFor_30 (lv_at jl 4 rfl) ?_
        refine z_ishr jx jb d_Mod_numberFor_32 b1 (2 ^ b1) (rfl) (by omega) ?_
        refine lv_istore (lv' := [(5, .int (iZ ((y + 2 ^ o) / (2 ^ b1)))), (0, .ref r), (1, .int (iZ x)), (2, .int (iZ y)), (3, .int (iZ (wgt (xp x.toNat)))), (4, .int (iZ (b1 : Int)))]) jx jb d_Mod_numberFor_33 jl (by decide) rfl (fun ls jl => ?_)
        refine lv_iload jx jb d_Mod_numberFor_35 (lv_at jl 0 rfl) ?_
        refine lv_iload_n jx jb d_Mod_numberFor_37 rfl (lv_at jl 4 rfl) ?_
        have hwd := wh_div (wh := y + 2 ^ o) (b := b1) (by omega)
        refine z_icmp_lt (tgt := 63) jx jb d_Mod_numberFor_38 (by decide) ⟨⟨by omega, by omega⟩, ⟨by omega, by omega⟩⟩ (fun hc38 => ?_) (fun hc38 => ?_)
        ·
          refine lv_iinc (v := iZ ((b1 : Int) + 1)) (lv' := [(4, .int (iZ ((b1 : Int) + 1))), (5, .int (iZ ((y + 2 ^ o) / (2 ^ b1)))), (0, .ref r), (1, .int (iZ x)), (2, .int (iZ y)), (3, .int (iZ (wgt (xp x.toNat))))]) jx jb d_Mod_numberFor_63 jl (k := 5) rfl (iZ_add _ _) (by decide) rfl (fun ls jl => ?_)
          refine lv_goto (tgt := 13) jx jb d_Mod_numberFor_66 (by decide) ?_
          exact ih13 (b1 + 1) (by omega) (by first | assumption | omega) (lt_s h0 (by omega)) _ (lv_sub jl [2, 3, 4, 5, 0] rfl)
        ·
          refine lv_iload jx jb d_Mod_numberFor_41 (lv_at jl 0 rfl) ?_
          refine lv_iconst (v := iZ 2) jx jb d_Mod_numberFor_43 rfl ?_
          refine lv_iload_n jx jb d_Mod_numberFor_44 rfl (lv_at jl 4 rfl) ?_
          refine z_imul jx jb d_Mod_numberFor_45 ?_
          refine z_icmp_ge (tgt := 63) jx jb d_Mod_numberFor_46 (by decide) ⟨⟨by omega, by omega⟩, ⟨by omega, by omega⟩⟩ (fun hc46 => ?_) (fun hc46 => ?_)
          ·
            refine lv_iinc (v := iZ ((b1 : Int) + 1)) (lv' := [(4, .int (iZ ((b1 : Int) + 1))), (5, .int (iZ ((y + 2 ^ o) / (2 ^ b1)))), (0, .ref r), (1, .int (iZ x)), (2, .int (iZ y)), (3, .int (iZ (wgt (xp x.toNat))))]) jx jb d_Mod_numberFor_63 jl (k := 5) rfl (iZ_add _ _) (by decide) rfl (fun ls jl => ?_)
            refine lv_goto (tgt := 13) jx jb d_Mod_numberFor_66 (by decide) ?_
            exact ih13 (b1 + 1) (by omega) (by first | assumption | omega) (lt_s h0 (by omega)) _ (lv_sub jl [2, 3, 4, 5, 0] rfl)
          ·
            refine lv_aload_n jx jb d_Mod_numberFor_49 rfl (lv_at jl 1 rfl) ?_
            refine lv_iload jx jb d_Mod_numberFor_50 (lv_at jl 0 rfl) ?_
            refine z_backe (va_runV (As := [.int (iZ ((y + 2 ^ o) / (2 ^ b1)))]) (rest := []) ⟨jx, jb, jml, jown, jts⟩ (c_M_bitsOf l D cI cB cZ r ri ro rc rp rs rd rk rh iL go oL o bP bR ((y + 2 ^ o) / (2 ^ b1)) (by first | assumption | omega) (by omega)) (zc_V 1 jts cd_Mod_bitsOf lk_Mod_112 im_Mod_bitsOf se_Mod_bitsOf in_Mod hd_Mod_bitsOf ⟨Nat.le_of_ble_eq_true rfl, Nat.le_of_ble_eq_true rfl⟩ rfl rfl) (z_preVR jK jP [0] rfl rfl rfl) rfl rfl jl.1 rfl (lv_room (Nat.le_of_ble_eq_true rfl)) d_Mod_numberFor_52 ⟨Nat.le_of_ble_eq_true rfl, Nat.le_of_ble_eq_true rfl⟩) ?_
            have hzd := zlog_div (wh := y + 2 ^ o) (o := o) (b := b1) (by omega) (by omega) (by omega)
            refine lv_iload jx jb d_Mod_numberFor_55 (lv_at jl 5 rfl) ?_
            refine z_icmp_ne (tgt := 63) jx jb d_Mod_numberFor_57 (by decide) ⟨⟨by omega, by omega⟩, ⟨by omega, by omega⟩⟩ (fun hc57 => ?_) (fun hc57 => ?_)
            ·
              exact absurd hc57 (by rw [hzd]; omega)
            ·
              refine lv_iload jx jb d_Mod_numberFor_60 (lv_at jl 0 rfl) ?_
              exact jret _ _ _ (Or.inl rfl) (⟨b1, by omega, rfl, by omega, by omega⟩) d_Mod_numberFor_62
  exact hloop13 ((o + 1 - 0) + 1) 0 (Nat.lt_succ_self _) (by first | assumption | omega) (fun n h => absurd h (by omega)) _ (lv_sub jl [2, 3, 4, 1, 0] rfl)
abbrev rm_M_cell : Room := { frames := 2, cells := 0, slots := 0, locals := 43 }
set_option maxHeartbeats 4000000 in
set_option maxRecDepth 100000 in
theorem c_M_cell (l : Launch) (D : va_G) (cI cB cZ : ClassId) (r : Nat) (ri : Nat) (ro : Nat) (rc : Nat) (rp : Nat) (rs : Nat) (rd : Nat) (rk : Nat) (rh : Nat) (iL : Int) (go : Int) (oL : Int) (o : Nat) (bP : Int) (bR : Int) (xp : Nat → Int) (xs : Nat → Int) (k : Int) (x : Int) (ho : o ≤ 12) (hpr : ∀ k, k < 256 → -1 ≤ xp k ∧ xp k ≤ 65536) (hxs : ∀ k, k < 4096 → 0 ≤ xs k ∧ xs k < 256) (hk : -2147483648 ≤ k ∧ k < 2147483648) (hx1 : -2147483648 ≤ x ∧ x < 2147483648) (hnum : 0 < o → ∀ j : Nat, (j : Int) < 2 ^ o → 1 ≤ wgt (xp (xs j).toNat) + cntS xs (xs j) j ∧ wgt (xp (xs j).toNat) + cntS xs (xs j) j < 2 ^ (o + 1)) : Met l y_Mod_cell (.code y_Mod_cell b_Mod_cell 3 (some .int) :: zT) rm_M_cell (zRc D classes (TY cI cB cZ) [(r, .inr (4, [.ref ri, .int (iZ iL), .int (iZ go), .ref ro, .int (iZ oL), .ref rc, .int (iZ (o : Int)), .ref rp, .ref rs, .ref rd, .ref rk, .ref rh, .int (iZ bP), .int (iZ bR)])), (rp, .inl (cI, 256, .inl (zA xp))), (rs, .inl (cI, 4096, .inl (zA xs)))] [.ref r, .int (iZ k), .int (iZ x)]) (zSi (fun z => z = cellAns o xs (fun j => (o : Int) - (zlog (wgt (xp (xs j).toNat) + cntS xs (xs j) j) : Int)) (fun j => (wgt (xp (xs j).toNat) + cntS xs (xs j) j) * 2 ^ (o - zlog (wgt (xp (xs j).toNat) + cntS xs (xs j) j)) - 2 ^ o) k x)) 0 0 (fun _ => False) := by
  refine z_ofr (by decide) (Nat.le_of_ble_eq_true rfl) (Or.inl rfl) ?_
  intro p e s m args below meth c Q E jP jK jret ls jl
  obtain ⟨jx, jb, jrt, jml, jown, jts, jlk⟩ := E
  have jown : s.vm.findClass R_Mod = some m.cls := jown
  have hp12 := p2_le ho
  have hp0 := p2_pos o
  have hps := p2_s o
  have jl : lv_has ls 3 [(0, .ref r), (1, .int (iZ k)), (2, .int (iZ x))] := jl
  refine lv_aload_n jx jb d_Mod_cell_0 rfl (lv_at jl 0 rfl) ?_
  refine va_get (D := D) (ci := 4) (v := .int (iZ (o : Int))) (C := R_Mod) (T := F_Mod) (N := 14) jx jb jts i_Mod jown jK.1 jP 0 rfl rfl 6 (by decide) (jts _ fl_Mod_50) (fun _ h9 => h9) rfl d_Mod_cell_1 ?_
  refine z_if_eq (tgt := 30) jx jb d_Mod_cell_4 (by decide) ⟨by omega, by omega⟩ (fun hc4 => ?_) (fun hc4 => ?_)
  ·
    refine lv_iconst (v := iZ (-1)) jx jb d_Mod_cell_30 rfl ?_
    exact jret _ _ _ (Or.inl rfl) (by first | exact (cellAns_no (by omega)).symm | exact (cellAns_x (by omega)).symm) d_Mod_cell_31
  ·
    refine lv_iload_n jx jb d_Mod_cell_7 rfl (lv_at jl 1 rfl) ?_
    refine z_if_lt (tgt := 30) jx jb d_Mod_cell_8 (by decide) ⟨by omega, by omega⟩ (fun hc8 => ?_) (fun hc8 => ?_)
    ·
      refine lv_iconst (v := iZ (-1)) jx jb d_Mod_cell_30 rfl ?_
      exact jret _ _ _ (Or.inl rfl) (by first | exact (cellAns_no (by omega)).symm | exact (cellAns_x (by omega)).symm) d_Mod_cell_31
    ·
      refine lv_iload_n jx jb d_Mod_cell_11 rfl (lv_at jl 1 rfl) ?_
      refine lv_iconst (v := iZ 1) jx jb d_Mod_cell_12 rfl ?_
      refine lv_aload_n jx jb d_Mod_cell_13 rfl (lv_at jl 0 rfl) ?_
      refine va_get (D := D) (ci := 4) (v := .int (iZ (o : Int))) (C := R_Mod) (T := F_Mod) (N := 14) jx jb jts i_Mod jown jK.1 jP 0 rfl rfl 6 (by decide) (jts _ fl_Mod_50) (fun _ h9 => h9) rfl d_Mod_cell_14 ?_
      refine z_ishl jx jb d_Mod_cell_17 o (2 ^ o) (rfl) (by omega) ?_
      refine z_top (2 ^ o) (Int.one_mul _) ?_
      refine z_icmp_ge (tgt := 30) jx jb d_Mod_cell_18 (by decide) ⟨⟨by omega, by omega⟩, ⟨by omega, by omega⟩⟩ (fun hc18 => ?_) (fun hc18 => ?_)
      ·
        refine lv_iconst (v := iZ (-1)) jx jb d_Mod_cell_30 rfl ?_
        exact jret _ _ _ (Or.inl rfl) (by first | exact (cellAns_no (by omega)).symm | exact (cellAns_x (by omega)).symm) d_Mod_cell_31
      ·
        refine lv_iload_n jx jb d_Mod_cell_21 rfl (lv_at jl 2 rfl) ?_
        refine z_if_lt (tgt := 30) jx jb d_Mod_cell_22 (by decide) ⟨by omega, by omega⟩ (fun hc22 => ?_) (fun hc22 => ?_)
        ·
          refine lv_iconst (v := iZ (-1)) jx jb d_Mod_cell_30 rfl ?_
          exact jret _ _ _ (Or.inl rfl) (by first | exact (cellAns_no (by omega)).symm | exact (cellAns_x (by omega)).symm) d_Mod_cell_31
        ·
          refine lv_iload_n jx jb d_Mod_cell_25 rfl (lv_at jl 2 rfl) ?_
          refine lv_iconst (v := iZ 2) jx jb d_Mod_cell_26 rfl ?_
          refine z_icmp_le (tgt := 32) jx jb d_Mod_cell_27 (by decide) ⟨⟨by omega, by omega⟩, ⟨by decide, by decide⟩⟩ (fun hc27 => ?_) (fun hc27 => ?_)
          ·
            have hnk := hnum (by omega) k.toNat (by omega)
            refine lv_iload_n jx jb d_Mod_cell_32 rfl (lv_at jl 2 rfl) ?_
            refine z_if_ne (tgt := 45) jx jb d_Mod_cell_33 (by decide) ⟨by omega, by omega⟩ (fun hc33 => ?_) (fun hc33 => ?_)
            ·
              refine lv_iload_n jx jb d_Mod_cell_45 rfl (lv_at jl 2 rfl) ?_
              refine lv_iconst (v := iZ 1) jx jb d_Mod_cell_46 rfl ?_
              refine z_icmp_ne (tgt := 62) jx jb d_Mod_cell_47 (by decide) ⟨⟨by omega, by omega⟩, ⟨by decide, by decide⟩⟩ (fun hc47 => ?_) (fun hc47 => ?_)
              ·
                refine lv_aload_n jx jb d_Mod_cell_62 rfl (lv_at jl 0 rfl) ?_
                refine lv_aload_n jx jb d_Mod_cell_63 rfl (lv_at jl 0 rfl) ?_
                refine lv_iload_n jx jb d_Mod_cell_64 rfl (lv_at jl 1 rfl) ?_
                refine z_top ((k.toNat : Nat) : Int) (by omega) ?_
                refine z_backe (va_runV (As := [.int (iZ ((k.toNat : Nat) : Int))]) (rest := [.ref r]) ⟨jx, jb, jml, jown, jts⟩ (c_M_numberOf l D cI cB cZ r ri ro rc rp rs rd rk rh iL go oL o bP bR xp xs (k.toNat : Nat) (by first | assumption | omega) (by first | assumption | omega) (by first | assumption | omega)) (zc_V 1 jts cd_Mod_numberOf lk_Mod_115 im_Mod_numberOf se_Mod_numberOf in_Mod hd_Mod_numberOf ⟨Nat.le_of_ble_eq_true rfl, Nat.le_of_ble_eq_true rfl⟩ rfl rfl) (z_preVR jK jP [0, 1, 2] rfl rfl rfl) rfl rfl jl.1 rfl (lv_room (Nat.le_of_ble_eq_true rfl)) d_Mod_cell_65 ⟨Nat.le_of_ble_eq_true rfl, Nat.le_of_ble_eq_true rfl⟩) ?_
                refine z_backe (va_runV (As := [.int (iZ (wgt (xp (xs (k.toNat : Nat)).toNat) + cntS xs (xs (k.toNat : Nat)) (k.toNat : Nat)))]) (rest := []) ⟨jx, jb, jml, jown, jts⟩ (c_M_baseOf l D cI cB cZ r ri ro rc rp rs rd rk rh iL go oL o bP bR (wgt (xp (xs (k.toNat : Nat)).toNat) + cntS xs (xs (k.toNat : Nat)) (k.toNat : Nat)) (by first | assumption | omega) (by first | assumption | omega)) (zc_V 1 jts cd_Mod_baseOf lk_Mod_118 im_Mod_baseOf se_Mod_baseOf in_Mod hd_Mod_baseOf ⟨Nat.le_of_ble_eq_true rfl, Nat.le_of_ble_eq_true rfl⟩ rfl rfl) (z_preVR jK jP [0] rfl rfl rfl) rfl rfl jl.1 rfl (lv_room (Nat.le_of_ble_eq_true rfl)) d_Mod_cell_68 ⟨Nat.le_of_ble_eq_true rfl, Nat.le_of_ble_eq_true rfl⟩) ?_
                exact jret _ _ _ (Or.inl rfl) (by first | rw [cellAns_0 (by omega) (by omega)] | rw [cellAns_1 (by omega) (by omega)] | rw [cellAns_2 (by omega) (by omega)]) d_Mod_cell_71
              ·
                refine lv_aload_n jx jb d_Mod_cell_50 rfl (lv_at jl 0 rfl) ?_
                refine lv_aload_n jx jb d_Mod_cell_51 rfl (lv_at jl 0 rfl) ?_
                refine lv_iload_n jx jb d_Mod_cell_52 rfl (lv_at jl 1 rfl) ?_
                refine z_top ((k.toNat : Nat) : Int) (by omega) ?_
                refine z_backe (va_runV (As := [.int (iZ ((k.toNat : Nat) : Int))]) (rest := [.ref r]) ⟨jx, jb, jml, jown, jts⟩ (c_M_numberOf l D cI cB cZ r ri ro rc rp rs rd rk rh iL go oL o bP bR xp xs (k.toNat : Nat) (by first | assumption | omega) (by first | assumption | omega) (by first | assumption | omega)) (zc_V 1 jts cd_Mod_numberOf lk_Mod_115 im_Mod_numberOf se_Mod_numberOf in_Mod hd_Mod_numberOf ⟨Nat.le_of_ble_eq_true rfl, Nat.le_of_ble_eq_true rfl⟩ rfl rfl) (z_preVR jK jP [0, 1, 2] rfl rfl rfl) rfl rfl jl.1 rfl (lv_room (Nat.le_of_ble_eq_true rfl)) d_Mod_cell_53 ⟨Nat.le_of_ble_eq_true rfl, Nat.le_of_ble_eq_true rfl⟩) ?_
                refine z_backe (va_runV (As := [.int (iZ (wgt (xp (xs (k.toNat : Nat)).toNat) + cntS xs (xs (k.toNat : Nat)) (k.toNat : Nat)))]) (rest := []) ⟨jx, jb, jml, jown, jts⟩ (c_M_bitsOf l D cI cB cZ r ri ro rc rp rs rd rk rh iL go oL o bP bR (wgt (xp (xs (k.toNat : Nat)).toNat) + cntS xs (xs (k.toNat : Nat)) (k.toNat : Nat)) (by first | assumption | omega) (by first | assumption | omega)) (zc_V 1 jts cd_Mod_bitsOf lk_Mod_112 im_Mod_bitsOf se_Mod_bitsOf in_Mod hd_Mod_bitsOf ⟨Nat.le_of_ble_eq_true rfl, Nat.le_of_ble_eq_true rfl⟩ rfl rfl) (z_preVR jK jP [0] rfl rfl rfl) rfl rfl jl.1 rfl (lv_room (Nat.le_of_ble_eq_true rfl)) d_Mod_cell_56 ⟨Nat.le_of_ble_eq_true rfl, Nat.le_of_ble_eq_true rfl⟩) ?_
                refine lv_goto (tgt := 71) jx jb d_Mod_cell_59 (by decide) ?_
                exact jret _ _ _ (Or.inl rfl) (by first | rw [cellAns_0 (by omega) (by omega)] | rw [cellAns_1 (by omega) (by omega)] | rw [cellAns_2 (by omega) (by omega)]) d_Mod_cell_71
            ·
              refine lv_aload_n jx jb d_Mod_cell_36 rfl (lv_at jl 0 rfl) ?_
              refine va_get (D := D) (ci := 4) (v := .ref rs) (C := R_Mod) (T := F_Mod) (N := 14) jx jb jts i_Mod jown jK.1 jP 0 rfl rfl 8 (by decide) (jts _ fl_Mod_22) (fun _ h9 => h9) rfl d_Mod_cell_37 ?_
              refine lv_iload_n jx jb d_Mod_cell_40 rfl (lv_at jl 1 rfl) ?_
              refine z_iald jx jb jK.1 jP 2 0 rfl rfl k.toNat (by omega) d_Mod_cell_41 ?_
              refine lv_goto (tgt := 71) jx jb d_Mod_cell_42 (by decide) ?_
              exact jret _ _ _ (Or.inl rfl) (by first | rw [cellAns_0 (by omega) (by omega)] | rw [cellAns_1 (by omega) (by omega)] | rw [cellAns_2 (by omega) (by omega)]) d_Mod_cell_71
          ·
            refine lv_iconst (v := iZ (-1)) jx jb d_Mod_cell_30 rfl ?_
            exact jret _ _ _ (Or.inl rfl) (by first | exact (cellAns_no (by omega)).symm | exact (cellAns_x (by omega)).symm) d_Mod_cell_31
