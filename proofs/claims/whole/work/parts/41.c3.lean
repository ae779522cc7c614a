theorem cd_Share_giveNumber : Cond.code y_Share_giveNumber b_Share_giveNumber 5 none ∈ zT := zT_of (List.mem_of_getElem? (i := 290) (by decide +kernel)) rfl
theorem hd_Share_giveNumber : y_Share_giveNumber.cls ≠ "java/lang/invoke/MethodHandle" ∧ y_Share_giveNumber.cls ≠ "java/lang/invoke/VarHandle" ∧ (parseMethodDescriptor y_Share_giveNumber.desc).map (fun d => d.parameters.length) = some 3 := by decide +kernel
theorem lk_Share_79 : Cond.methodLink R_Share 79 y_Share_giveNumber ∈ zT := zT_of (List.mem_of_getElem? (i := 287) (by decide +kernel)) rfl
theorem im_Share_giveNumber : Cond.instanceMethod y_Share_giveNumber ∈ zT := zT_of (List.mem_of_getElem? (i := 289) (by decide +kernel)) rfl
theorem se_Share_giveNumber : Cond.selects R_Share y_Share_giveNumber y_Share_giveNumber ∈ zT := zT_of (List.mem_of_getElem? (i := 8) (by decide +kernel)) rfl
theorem d_Share_spreadSingles_0 : decode b_Share_spreadSingles 0 = .ok (.aload_n 0, 1) := by decide +kernel
theorem d_Share_spreadSingles_1 : decode b_Share_spreadSingles 1 = .ok (.invokevirtual 41, 3) := by decide +kernel
theorem d_Share_spreadSingles_4 : decode b_Share_spreadSingles 4 = .ok (.istore_n 1, 1) := by decide +kernel
theorem d_Share_spreadSingles_5 : decode b_Share_spreadSingles 5 = .ok (.iconst 0, 1) := by decide +kernel
theorem d_Share_spreadSingles_6 : decode b_Share_spreadSingles 6 = .ok (.istore_n 2, 1) := by decide +kernel
theorem d_Share_spreadSingles_7 : decode b_Share_spreadSingles 7 = .ok (.iload_n 2, 1) := by decide +kernel
theorem d_Share_spreadSingles_8 : decode b_Share_spreadSingles 8 = .ok (.sipush 256, 3) := by decide +kernel
theorem d_Share_spreadSingles_11 : decode b_Share_spreadSingles 11 = .ok (.if_icmp .ge 39, 3) := by decide +kernel
theorem d_Share_spreadSingles_14 : decode b_Share_spreadSingles 14 = .ok (.aload_n 0, 1) := by decide +kernel
theorem d_Share_spreadSingles_15 : decode b_Share_spreadSingles 15 = .ok (.getfield 9, 3) := by decide +kernel
theorem d_Share_spreadSingles_18 : decode b_Share_spreadSingles 18 = .ok (.iload_n 2, 1) := by decide +kernel
theorem d_Share_spreadSingles_19 : decode b_Share_spreadSingles 19 = .ok (.iaload, 1) := by decide +kernel
theorem d_Share_spreadSingles_20 : decode b_Share_spreadSingles 20 = .ok (.iconst (-1), 1) := by decide +kernel
theorem d_Share_spreadSingles_21 : decode b_Share_spreadSingles 21 = .ok (.if_icmp .ne 23, 3) := by decide +kernel
theorem d_Share_spreadSingles_24 : decode b_Share_spreadSingles 24 = .ok (.aload_n 0, 1) := by decide +kernel
theorem d_Share_spreadSingles_25 : decode b_Share_spreadSingles 25 = .ok (.iload_n 1, 1) := by decide +kernel
theorem d_Share_spreadSingles_26 : decode b_Share_spreadSingles 26 = .ok (.iconst 1, 1) := by decide +kernel
theorem d_Share_spreadSingles_27 : decode b_Share_spreadSingles 27 = .ok (.isub, 1) := by decide +kernel
theorem d_Share_spreadSingles_28 : decode b_Share_spreadSingles 28 = .ok (.invokevirtual 56, 3) := by decide +kernel
theorem d_Share_spreadSingles_31 : decode b_Share_spreadSingles 31 = .ok (.ifCond .eq 13, 3) := by decide +kernel
theorem d_Share_spreadSingles_34 : decode b_Share_spreadSingles 34 = .ok (.iinc 1 (-1), 3) := by decide +kernel
theorem d_Share_spreadSingles_37 : decode b_Share_spreadSingles 37 = .ok (.aload_n 0, 1) := by decide +kernel
theorem d_Share_spreadSingles_38 : decode b_Share_spreadSingles 38 = .ok (.getfield 15, 3) := by decide +kernel
theorem d_Share_spreadSingles_41 : decode b_Share_spreadSingles 41 = .ok (.iload_n 1, 1) := by decide +kernel
theorem d_Share_spreadSingles_42 : decode b_Share_spreadSingles 42 = .ok (.iload_n 2, 1) := by decide +kernel
theorem d_Share_spreadSingles_43 : decode b_Share_spreadSingles 43 = .ok (.iastore, 1) := by decide +kernel
theorem d_Share_spreadSingles_44 : decode b_Share_spreadSingles 44 = .ok (.iinc 2 1, 3) := by decide +kernel
theorem d_Share_spreadSingles_47 : decode b_Share_spreadSingles 47 = .ok (.goto (-40), 3) := by decide +kernel
theorem d_Share_spreadSingles_50 : decode b_Share_spreadSingles 50 = .ok (.iload_n 1, 1) := by decide +kernel
theorem d_Share_spreadSingles_51 : decode b_Share_spreadSingles 51 = .ok (.ireturn, 1) := by decide +kernel
theorem d_Share_spreadOthers_0 : decode b_Share_spreadOthers 0 = .ok (.aload_n 0, 1) := by decide +kernel
theorem d_Share_spreadOthers_1 : decode b_Share_spreadOthers 1 = .ok (.invokevirtual 41, 3) := by decide +kernel
theorem d_Share_spreadOthers_4 : decode b_Share_spreadOthers 4 = .ok (.istore_n 2, 1) := by decide +kernel
theorem d_Share_spreadOthers_5 : decode b_Share_spreadOthers 5 = .ok (.iload_n 2, 1) := by decide +kernel
theorem d_Share_spreadOthers_6 : decode b_Share_spreadOthers 6 = .ok (.iconst 1, 1) := by decide +kernel
theorem d_Share_spreadOthers_7 : decode b_Share_spreadOthers 7 = .ok (.ishr, 1) := by decide +kernel
theorem d_Share_spreadOthers_8 : decode b_Share_spreadOthers 8 = .ok (.iload_n 2, 1) := by decide +kernel
theorem d_Share_spreadOthers_9 : decode b_Share_spreadOthers 9 = .ok (.iconst 3, 1) := by decide +kernel
theorem d_Share_spreadOthers_10 : decode b_Share_spreadOthers 10 = .ok (.ishr, 1) := by decide +kernel
theorem d_Share_spreadOthers_11 : decode b_Share_spreadOthers 11 = .ok (.iadd, 1) := by decide +kernel
theorem d_Share_spreadOthers_12 : decode b_Share_spreadOthers 12 = .ok (.iconst 3, 1) := by decide +kernel
theorem d_Share_spreadOthers_13 : decode b_Share_spreadOthers 13 = .ok (.iadd, 1) := by decide +kernel
theorem d_Share_spreadOthers_14 : decode b_Share_spreadOthers 14 = .ok (.istore_n 3, 1) := by decide +kernel
theorem d_Share_spreadOthers_15 : decode b_Share_spreadOthers 15 = .ok (.iconst (-1), 1) := by decide +kernel
theorem d_Share_spreadOthers_16 : decode b_Share_spreadOthers 16 = .ok (.istore 4, 2) := by decide +kernel
theorem d_Share_spreadOthers_18 : decode b_Share_spreadOthers 18 = .ok (.iconst 0, 1) := by decide +kernel
theorem d_Share_spreadOthers_19 : decode b_Share_spreadOthers 19 = .ok (.istore 5, 2) := by decide +kernel
theorem d_Share_spreadOthers_21 : decode b_Share_spreadOthers 21 = .ok (.iconst 0, 1) := by decide +kernel
theorem d_Share_spreadOthers_22 : decode b_Share_spreadOthers 22 = .ok (.istore 6, 2) := by decide +kernel
theorem d_Share_spreadOthers_24 : decode b_Share_spreadOthers 24 = .ok (.iconst 0, 1) := by decide +kernel
theorem d_Share_spreadOthers_25 : decode b_Share_spreadOthers 25 = .ok (.istore 7, 2) := by decide +kernel
theorem d_Share_spreadOthers_27 : decode b_Share_spreadOthers 27 = .ok (.iload 7, 2) := by decide +kernel
theorem d_Share_spreadOthers_29 : decode b_Share_spreadOthers 29 = .ok (.iload_n 2, 1) := by decide +kernel
theorem d_Share_spreadOthers_30 : decode b_Share_spreadOthers 30 = .ok (.if_icmp .ge 74, 3) := by decide +kernel
theorem d_Share_spreadOthers_33 : decode b_Share_spreadOthers 33 = .ok (.iload 6, 2) := by decide +kernel
theorem d_Share_spreadOthers_35 : decode b_Share_spreadOthers 35 = .ok (.iload_n 1, 1) := by decide +kernel
theorem d_Share_spreadOthers_36 : decode b_Share_spreadOthers 36 = .ok (.if_icmp .ge 52, 3) := by decide +kernel
theorem d_Share_spreadOthers_39 : decode b_Share_spreadOthers 39 = .ok (.aload_n 0, 1) := by decide +kernel
theorem d_Share_spreadOthers_40 : decode b_Share_spreadOthers 40 = .ok (.iload 6, 2) := by decide +kernel
theorem d_Share_spreadOthers_42 : decode b_Share_spreadOthers 42 = .ok (.invokevirtual 56, 3) := by decide +kernel
theorem d_Share_spreadOthers_45 : decode b_Share_spreadOthers 45 = .ok (.ifCond .eq 43, 3) := by decide +kernel
theorem d_Share_spreadOthers_48 : decode b_Share_spreadOthers 48 = .ok (.iload 5, 2) := by decide +kernel
theorem d_Share_spreadOthers_50 : decode b_Share_spreadOthers 50 = .ok (.ifCond .gt 26, 3) := by decide +kernel
theorem d_Share_spreadOthers_53 : decode b_Share_spreadOthers 53 = .ok (.iload 4, 2) := by decide +kernel
theorem d_Share_spreadOthers_55 : decode b_Share_spreadOthers 55 = .ok (.sipush 255, 3) := by decide +kernel
theorem d_Share_spreadOthers_58 : decode b_Share_spreadOthers 58 = .ok (.if_icmp .ge 18, 3) := by decide +kernel
theorem d_Share_spreadOthers_61 : decode b_Share_spreadOthers 61 = .ok (.iinc 4 1, 3) := by decide +kernel
theorem d_Share_spreadOthers_64 : decode b_Share_spreadOthers 64 = .ok (.aload_n 0, 1) := by decide +kernel
theorem d_Share_spreadOthers_65 : decode b_Share_spreadOthers 65 = .ok (.getfield 9, 3) := by decide +kernel
theorem d_Share_spreadOthers_68 : decode b_Share_spreadOthers 68 = .ok (.iload 4, 2) := by decide +kernel
theorem d_Share_spreadOthers_70 : decode b_Share_spreadOthers 70 = .ok (.iaload, 1) := by decide +kernel
theorem d_Share_spreadOthers_71 : decode b_Share_spreadOthers 71 = .ok (.istore 5, 2) := by decide +kernel
theorem d_Share_spreadOthers_73 : decode b_Share_spreadOthers 73 = .ok (.goto (-25), 3) := by decide +kernel
theorem d_Share_spreadOthers_76 : decode b_Share_spreadOthers 76 = .ok (.aload_n 0, 1) := by decide +kernel
theorem d_Share_spreadOthers_77 : decode b_Share_spreadOthers 77 = .ok (.getfield 15, 3) := by decide +kernel
theorem d_Share_spreadOthers_80 : decode b_Share_spreadOthers 80 = .ok (.iload 6, 2) := by decide +kernel
theorem d_Share_spreadOthers_82 : decode b_Share_spreadOthers 82 = .ok (.iload 4, 2) := by decide +kernel
theorem d_Share_spreadOthers_84 : decode b_Share_spreadOthers 84 = .ok (.iastore, 1) := by decide +kernel
theorem d_Share_spreadOthers_85 : decode b_Share_spreadOthers 85 = .ok (.iinc 5 (-1), 3) := by decide +kernel
theorem d_Share_spreadOthers_88 : decode b_Share_spreadOthers 88 = .ok (.iload 6, 2) := by decide +kernel
theorem d_Share_spreadOthers_90 : decode b_Share_spreadOthers 90 = .ok (.iload_n 3, 1) := by decide +kernel
theorem d_Share_spreadOthers_91 : decode b_Share_spreadOthers 91 = .ok (.iadd, 1) := by decide +kernel
theorem d_Share_spreadOthers_92 : decode b_Share_spreadOthers 92 = .ok (.iload_n 2, 1) := by decide +kernel
theorem d_Share_spreadOthers_93 : decode b_Share_spreadOthers 93 = .ok (.iconst 1, 1) := by decide +kernel
theorem d_Share_spreadOthers_94 : decode b_Share_spreadOthers 94 = .ok (.isub, 1) := by decide +kernel
theorem d_Share_spreadOthers_95 : decode b_Share_spreadOthers 95 = .ok (.iand, 1) := by decide +kernel
theorem d_Share_spreadOthers_96 : decode b_Share_spreadOthers 96 = .ok (.istore 6, 2) := by decide +kernel
theorem d_Share_spreadOthers_98 : decode b_Share_spreadOthers 98 = .ok (.iinc 7 1, 3) := by decide +kernel
theorem d_Share_spreadOthers_101 : decode b_Share_spreadOthers 101 = .ok (.goto (-74), 3) := by decide +kernel
theorem d_Share_spreadOthers_104 : decode b_Share_spreadOthers 104 = .ok (.return_, 1) := by decide +kernel
theorem d_Share_numberCells_0 : decode b_Share_numberCells 0 = .ok (.iconst 0, 1) := by decide +kernel
theorem d_Share_numberCells_1 : decode b_Share_numberCells 1 = .ok (.istore_n 1, 1) := by decide +kernel
theorem d_Share_numberCells_2 : decode b_Share_numberCells 2 = .ok (.iload_n 1, 1) := by decide +kernel
theorem d_Share_numberCells_3 : decode b_Share_numberCells 3 = .ok (.aload_n 0, 1) := by decide +kernel
theorem d_Share_numberCells_4 : decode b_Share_numberCells 4 = .ok (.invokevirtual 41, 3) := by decide +kernel
theorem d_Share_numberCells_7 : decode b_Share_numberCells 7 = .ok (.if_icmp .ge 52, 3) := by decide +kernel
theorem d_Share_numberCells_10 : decode b_Share_numberCells 10 = .ok (.iload_n 1, 1) := by decide +kernel
theorem d_Share_numberCells_11 : decode b_Share_numberCells 11 = .ok (.sipush 4096, 3) := by decide +kernel
theorem d_Share_numberCells_14 : decode b_Share_numberCells 14 = .ok (.if_icmp .ge 45, 3) := by decide +kernel
theorem d_Share_numberCells_17 : decode b_Share_numberCells 17 = .ok (.aload_n 0, 1) := by decide +kernel
theorem d_Share_numberCells_18 : decode b_Share_numberCells 18 = .ok (.getfield 15, 3) := by decide +kernel
theorem d_Share_numberCells_21 : decode b_Share_numberCells 21 = .ok (.iload_n 1, 1) := by decide +kernel
theorem d_Share_numberCells_22 : decode b_Share_numberCells 22 = .ok (.iaload, 1) := by decide +kernel
theorem d_Share_numberCells_23 : decode b_Share_numberCells 23 = .ok (.istore_n 2, 1) := by decide +kernel
theorem d_Share_numberCells_24 : decode b_Share_numberCells 24 = .ok (.iload_n 2, 1) := by decide +kernel
theorem d_Share_numberCells_25 : decode b_Share_numberCells 25 = .ok (.invokestatic 45, 3) := by decide +kernel
theorem d_Share_numberCells_28 : decode b_Share_numberCells 28 = .ok (.ifCond .eq 25, 3) := by decide +kernel
theorem d_Share_numberCells_31 : decode b_Share_numberCells 31 = .ok (.aload_n 0, 1) := by decide +kernel
theorem d_Share_numberCells_32 : decode b_Share_numberCells 32 = .ok (.iload_n 1, 1) := by decide +kernel
theorem d_Share_numberCells_33 : decode b_Share_numberCells 33 = .ok (.iload_n 2, 1) := by decide +kernel
theorem d_Share_numberCells_34 : decode b_Share_numberCells 34 = .ok (.aload_n 0, 1) := by decide +kernel
theorem d_Share_numberCells_35 : decode b_Share_numberCells 35 = .ok (.getfield 30, 3) := by decide +kernel
theorem d_Share_numberCells_38 : decode b_Share_numberCells 38 = .ok (.iload_n 2, 1) := by decide +kernel
theorem d_Share_numberCells_39 : decode b_Share_numberCells 39 = .ok (.iaload, 1) := by decide +kernel
theorem d_Share_numberCells_40 : decode b_Share_numberCells 40 = .ok (.invokevirtual 79, 3) := by decide +kernel
theorem d_Share_numberCells_43 : decode b_Share_numberCells 43 = .ok (.aload_n 0, 1) := by decide +kernel
theorem d_Share_numberCells_44 : decode b_Share_numberCells 44 = .ok (.getfield 30, 3) := by decide +kernel
theorem d_Share_numberCells_47 : decode b_Share_numberCells 47 = .ok (.iload_n 2, 1) := by decide +kernel
theorem d_Share_numberCells_48 : decode b_Share_numberCells 48 = .ok (.dup2, 1) := by decide +kernel
theorem d_Share_numberCells_49 : decode b_Share_numberCells 49 = .ok (.iaload, 1) := by decide +kernel
theorem d_Share_numberCells_50 : decode b_Share_numberCells 50 = .ok (.iconst 1, 1) := by decide +kernel
theorem d_Share_numberCells_51 : decode b_Share_numberCells 51 = .ok (.iadd, 1) := by decide +kernel
theorem d_Share_numberCells_52 : decode b_Share_numberCells 52 = .ok (.iastore, 1) := by decide +kernel
theorem d_Share_numberCells_53 : decode b_Share_numberCells 53 = .ok (.iinc 1 1, 3) := by decide +kernel
theorem d_Share_numberCells_56 : decode b_Share_numberCells 56 = .ok (.goto (-54), 3) := by decide +kernel
theorem d_Share_numberCells_59 : decode b_Share_numberCells 59 = .ok (.return_, 1) := by decide +kernel
abbrev rm_Share_spreadSingles : Room := { frames := 2, cells := 0, slots := 0, locals := 41 }
set_option maxHeartbeats 4000000 in
set_option maxRecDepth 100000 in
theorem c_Share_spreadSingles (l : Launch) (D : va_G) (cI cB cZ : ClassId) (sz : Nat) (h : Nat) (pP : Nat) (pS : Nat) (pB : Nat) (pA : Nat) (pC : Nat) (pF : Nat) (pN : Nat) (o : Nat) (gP : Nat → Int) (gS : Nat → Int) (ho : 5 ≤ o ∧ o ≤ 12) (hpr : ∀ k, k < 256 → -1 ≤ gP k ∧ gP k ≤ 65536) (hsum : cum gP 256 = 2 ^ o) : Met l y_Share_spreadSingles (.code y_Share_spreadSingles b_Share_spreadSingles 3 (some .int) :: zT) rm_Share_spreadSingles (zPc D classes (TY cI cB cZ) [(h, .inr (1, [.ref pP, .ref pS, .ref pB, .ref pA, .ref pC, .ref pF, .ref pN, .int (iZ (o : Int))])), (pP, .inl (cI, 256, .inl (zA gP))), (pS, .inl (cI, 4096, .inl (zA gS)))] sz [.ref h]) (zFi (S := Nat → Int) D classes (fun z u => sngl gP o gS 256 = (z, u)) (fun u => [(h, .inr (1, [.ref pP, .ref pS, .ref pB, .ref pA, .ref pC, .ref pF, .ref pN, .int (iZ (o : Int))])), (pP, .inl (cI, 256, .inl (zA gP))), (pS, .inl (cI, 4096, .inl (zA u)))]) (va_A [(h, .inr (1, [.ref pP, .ref pS, .ref pB, .ref pA, .ref pC, .ref pF, .ref pN, .int (iZ (o : Int))])), (pP, .inl (cI, 256, .inl (zA gP))), (pS, .inl (cI, 4096, .inl (zA gS)))] sz)) 0 0 (va_A [(h, .inr (1, [.ref pP, .ref pS, .ref pB, .ref pA, .ref pC, .ref pF, .ref pN, .int (iZ (o : Int))])), (pP, .inl (cI, 256, .inl (zA gP))), (pS, .inl (cI, 4096, .inl (zA gS)))] sz) := by
  refine z_ofi (by decide) (Nat.le_of_ble_eq_true rfl) (Or.inl rfl) ?_
  intro p e s m args below meth c A Q E jA jK jret H locs jP jD jS ls jl
  obtain ⟨jx, jb, jrt, jml, jown, jts, jlk⟩ := E
  have jown : s.vm.findClass R_Share = some m.cls := jown
  have hp12 := p2_le ho.2
  have hp0 := p2_pos o
  have jl : lv_has ls 3 [(0, .ref h)] := jl
  refine lv_aload_n jx jb d_Share_spreadSingles_0 rfl (lv_at jl 0 rfl) ?_
  refine z_backe (va_runV (As := []) (rest := []) ⟨jx, jb, jml, jown, jts⟩ (c_Share_cells l D cI cB cZ h pP pS pB pA pC pF pN o (ho.2)) (zc_V 0 jts cd_Share_cells lk_Share_41 im_Share_cells se_Share_cells in_Share hd_Share_cells ⟨Nat.le_of_ble_eq_true rfl, Nat.le_of_ble_eq_true rfl⟩ rfl rfl) (z_preVR jK jP [0] rfl rfl rfl) rfl rfl jl.1 rfl (lv_room (Nat.le_of_ble_eq_true rfl)) d_Share_spreadSingles_1 ⟨Nat.le_of_ble_eq_true rfl, Nat.le_of_ble_eq_true rfl⟩) ?_
  refine lv_istore_n (lv' := [(1, .int (iZ (2 ^ o))), (0, .ref h)]) jx jb d_Share_spreadSingles_4 rfl jl (by decide) rfl (fun ls jl => ?_)
  refine lv_iconst (v := iZ 0) jx jb d_Share_spreadSingles_5 rfl ?_
  refine lv_istore_n (lv' := [(2, .int (iZ 0)), (1, .int (iZ (2 ^ o))), (0, .ref h)]) jx jb d_Share_spreadSingles_6 rfl jl (by decide) rfl (fun ls jl => ?_)
  have hloop7 : ∀ (nF : Nat) (i : Nat) (E : Int) (t2 : Nat → Int), 256 - i < nF → (i ≤ 256) → (sngl gP o gS i = (E, t2)) → ∀ (H : Heap) (locs : List Loc), va_P D classes [(h, .inr (1, [.ref pP, .ref pS, .ref pB, .ref pA, .ref pC, .ref pF, .ref pN, .int (iZ (o : Int))])), (pP, .inl (cI, 256, .inl (zA gP))), (pS, .inl (cI, 4096, .inl (zA t2)))] H → va_D A [(h, .inr (1, [.ref pP, .ref pS, .ref pB, .ref pA, .ref pC, .ref pF, .ref pN, .int (iZ (o : Int))])), (pP, .inl (cI, 256, .inl (zA gP))), (pS, .inl (cI, 4096, .inl (zA t2)))] → va_S A s.heap H locs → ∀ ls : Array Slot, lv_has ls 3 [(0, .ref h), (1, .int (iZ E)), (2, .int (iZ (i : Int)))] → W p l e rm_Share_spreadSingles s m args below meth c H locs 0 0 Q (F0 m 7 ls []) := by
    intro nF
    induction nF with
    | zero => intro i E t2 hm; exact absurd hm (Nat.not_lt_zero _)
    | succ nF ih7 =>
      intro i E t2 hm hi hq H locs jP jD jS ls jl
      have hsb := sngl_b hpr hi hq
      refine lv_iload_n jx jb d_Share_spreadSingles_7 rfl (lv_at jl 2 rfl) ?_
      refine lv_sipush (v := iZ 256) jx jb d_Share_spreadSingles_8 (by decide) ?_
      refine z_icmp_ge (tgt := 50) jx jb d_Share_spreadSingles_11 (by decide) ⟨⟨by omega, by omega⟩, ⟨by decide, by decide⟩⟩ (fun hc11 => ?_) (fun hc11 => ?_)
      ·
        refine lv_iload_n jx jb d_Share_spreadSingles_50 rfl (lv_at jl 1 rfl) ?_
        exact jret _ _ _ (t2) _ _ (Or.inl rfl) (by rw [show (256 : Nat) = i by omega]; exact hq) (jP.sub [0, 1, 2] rfl) (jD.sub [0, 1, 2] (by decide) rfl) jS d_Share_spreadSingles_51
      ·
        refine lv_aload_n jx jb d_Share_spreadSingles_14 rfl (lv_at jl 0 rfl) ?_
        refine va_get (D := D) (ci := 1) (v := .ref pP) (C := R_Share) (T := F_Share) (N := 8) jx jb jts i_Share jown jK.1 jP 0 rfl rfl 0 (by decide) (jts _ fl_Share_9) (fun _ h9 => h9) rfl d_Share_spreadSingles_15 ?_
        refine lv_iload_n jx jb d_Share_spreadSingles_18 rfl (lv_at jl 2 rfl) ?_
        refine z_iald jx jb jK.1 jP 1 0 rfl rfl i (by omega) d_Share_spreadSingles_19 ?_
        refine lv_iconst (v := iZ (-1)) jx jb d_Share_spreadSingles_20 rfl ?_
        have hpi := hpr i (by omega)
        have hfit := cum_fit hpr (y := i) (by omega)
        refine z_icmp_ne (tgt := 44) jx jb d_Share_spreadSingles_21 (by decide) ⟨⟨by omega, by omega⟩, ⟨by decide, by decide⟩⟩ (fun hc21 => ?_) (fun hc21 => ?_)
        ·
          refine lv_iinc (v := iZ ((i : Int) + 1)) (lv' := [(2, .int (iZ ((i : Int) + 1))), (0, .ref h), (1, .int (iZ E))]) jx jb d_Share_spreadSingles_44 jl (k := 2) rfl (iZ_add _ _) (by decide) rfl (fun ls jl => ?_)
          refine lv_goto (tgt := 7) jx jb d_Share_spreadSingles_47 (by decide) ?_
          exact ih7 (i + 1) E t2 (by omega) (by first | assumption | omega) (by first | exact sngl_n hq hc21 | exact sngl_s hq hc21) _ _ (jP.sub [0, 1, 2] rfl) (jD.sub [0, 1, 2] (by decide) rfl) jS _ (lv_sub jl [1, 2, 0] rfl)
        ·
          have hw1 : wgt (gP i) = 1 := if_pos hc21
          refine lv_aload_n jx jb d_Share_spreadSingles_24 rfl (lv_at jl 0 rfl) ?_
          refine lv_iload_n jx jb d_Share_spreadSingles_25 rfl (lv_at jl 1 rfl) ?_
          refine lv_iconst (v := iZ 1) jx jb d_Share_spreadSingles_26 rfl ?_
          refine z_isub jx jb d_Share_spreadSingles_27 ?_
          refine z_backr (va_runV (As := [.int (iZ (E - 1))]) (rest := []) ⟨jx, jb, jml, jown, jts⟩ (c_Share_hasCell l D cI cB cZ h pP pS pB pA pC pF pN o (E - 1) (ho.2) (by first | assumption | omega)) (zc_V 1 jts cd_Share_hasCell lk_Share_56 im_Share_hasCell se_Share_hasCell in_Share hd_Share_hasCell ⟨Nat.le_of_ble_eq_true rfl, Nat.le_of_ble_eq_true rfl⟩ rfl rfl) (z_preVR jK jP [0] rfl rfl rfl) rfl rfl jl.1 rfl (lv_room (Nat.le_of_ble_eq_true rfl)) d_Share_spreadSingles_28 ⟨Nat.le_of_ble_eq_true rfl, Nat.le_of_ble_eq_true rfl⟩) (fun z28 hz28 => ?_)
          rcases hz28 with ⟨rfl, hq28⟩ | ⟨rfl, hq28⟩
          ·
            refine z_if_eq (tgt := 44) jx jb d_Share_spreadSingles_31 (by decide) ⟨by decide, by decide⟩ (fun hc31 => ?_) (fun hc31 => ?_)
            ·
              exact absurd hc31 (by decide)
            ·
              refine lv_iinc (v := iZ (E - 1)) (lv' := [(1, .int (iZ (E - 1))), (0, .ref h), (2, .int (iZ (i : Int)))]) jx jb d_Share_spreadSingles_34 jl (k := 1) rfl (by rw [show (E - 1) = E + (-1) from rfl]; exact iZ_add _ _) (by decide) rfl (fun ls jl => ?_)
              refine lv_aload_n jx jb d_Share_spreadSingles_37 rfl (lv_at jl 1 rfl) ?_
              refine va_get (D := D) (ci := 1) (v := .ref pS) (C := R_Share) (T := F_Share) (N := 8) jx jb jts i_Share jown jK.1 jP 0 rfl rfl 1 (by decide) (jts _ fl_Share_15) (fun _ h9 => h9) rfl d_Share_spreadSingles_38 ?_
              refine lv_iload_n jx jb d_Share_spreadSingles_41 rfl (lv_at jl 0 rfl) ?_
              refine lv_iload_n jx jb d_Share_spreadSingles_42 rfl (lv_at jl 2 rfl) ?_
              refine z_iast jx jb jK.1 jP jD jS 2 0 rfl rfl ((E - 1).toNat) (by omega) d_Share_spreadSingles_43 (fun H locs jP jD jS => ?_)
              have jP : va_P D classes [(h, .inr (1, [.ref pP, .ref pS, .ref pB, .ref pA, .ref pC, .ref pF, .ref pN, .int (iZ (o : Int))])), (pP, .inl (cI, 256, .inl (zA gP))), (pS, .inl (cI, 4096, .inl (zA (zu t2 ((E - 1).toNat) (i : Int)))))] H := jP
              have jD : va_D A [(h, .inr (1, [.ref pP, .ref pS, .ref pB, .ref pA, .ref pC, .ref pF, .ref pN, .int (iZ (o : Int))])), (pP, .inl (cI, 256, .inl (zA gP))), (pS, .inl (cI, 4096, .inl (zA (zu t2 ((E - 1).toNat) (i : Int)))))] := jD
              refine lv_iinc (v := iZ ((i : Int) + 1)) (lv' := [(2, .int (iZ ((i : Int) + 1))), (1, .int (iZ (E - 1))), (0, .ref h)]) jx jb d_Share_spreadSingles_44 jl (k := 2) rfl (iZ_add _ _) (by decide) rfl (fun ls jl => ?_)
              refine lv_goto (tgt := 7) jx jb d_Share_spreadSingles_47 (by decide) ?_
              exact ih7 (i + 1) (E - 1) (zu t2 ((E - 1).toNat) (i : Int)) (by omega) (by first | assumption | omega) (by first | exact sngl_n hq hc21 | exact sngl_s hq hc21) _ _ (jP.sub [0, 1, 2] rfl) (jD.sub [0, 1, 2] (by decide) rfl) jS _ (lv_sub jl [2, 1, 0] rfl)
          ·
            exfalso; omega
  exact hloop7 ((256 - 0) + 1) 0 (2 ^ o) gS (Nat.lt_succ_self _) (by first | assumption | omega) (rfl) _ _ (jP.sub [0, 1, 2] rfl) (jD.sub [0, 1, 2] (by decide) rfl) jS _ (lv_sub jl [2, 1, 0] rfl)
abbrev rm_Share_spreadOthers : Room := { frames := 2, cells := 0, slots := 0, locals := 41 }
set_option maxHeartbeats 4000000 in
set_option maxRecDepth 100000 in
theorem c_Share_spreadOthers (l : Launch) (D : va_G) (cI cB cZ : ClassId) (sz : Nat) (h : Nat) (pP : Nat) (pS : Nat) (pB : Nat) (pA : Nat) (pC : Nat) (pF : Nat) (pN : Nat) (o : Nat) (gP : Nat → Int) (gS : Nat → Int) (x : Int) (ho : 5 ≤ o ∧ o ≤ 12) (hpr : ∀ k, k < 256 → -1 ≤ gP k ∧ gP k ≤ 65536) (hx1 : 0 ≤ x ∧ x ≤ 4096) : Met l y_Share_spreadOthers (.code y_Share_spreadOthers b_Share_spreadOthers 8 none :: zT) rm_Share_spreadOthers (zPc D classes (TY cI cB cZ) [(h, .inr (1, [.ref pP, .ref pS, .ref pB, .ref pA, .ref pC, .ref pF, .ref pN, .int (iZ (o : Int))])), (pP, .inl (cI, 256, .inl (zA gP))), (pS, .inl (cI, 4096, .inl (zA gS)))] sz [.ref h, .int (iZ x)]) (zFv (S := Nat → Int) D classes (fun u => u = (sprd gP o x gS (2 ^ o)).1) (fun u => [(h, .inr (1, [.ref pP, .ref pS, .ref pB, .ref pA, .ref pC, .ref pF, .ref pN, .int (iZ (o : Int))])), (pP, .inl (cI, 256, .inl (zA gP))), (pS, .inl (cI, 4096, .inl (zA u)))]) (va_A [(h, .inr (1, [.ref pP, .ref pS, .ref pB, .ref pA, .ref pC, .ref pF, .ref pN, .int (iZ (o : Int))])), (pP, .inl (cI, 256, .inl (zA gP))), (pS, .inl (cI, 4096, .inl (zA gS)))] sz)) 0 0 (va_A [(h, .inr (1, [.ref pP, .ref pS, .ref pB, .ref pA, .ref pC, .ref pF, .ref pN, .int (iZ (o : Int))])), (pP, .inl (cI, 256, .inl (zA gP))), (pS, .inl (cI, 4096, .inl (zA gS)))] sz) := by
  refine z_ofv (by decide) (Nat.le_of_ble_eq_true rfl) rfl ?_
  intro p e s m args below meth c A Q E jmn jA jK jret H locs jP jD jS ls jl
  obtain ⟨jx, jb, jrt, jml, jown, jts, jlk⟩ := E
  have jown : s.vm.findClass R_Share = some m.cls := jown
  have hp12 := p2_le ho.2
  have hp0 := p2_pos o
  have hpn := p2n o
  have jl : lv_has ls 8 [(0, .ref h), (1, .int (iZ x))] := jl
  refine lv_aload_n jx jb d_Share_spreadOthers_0 rfl (lv_at jl 0 rfl) ?_
  refine z_backe (va_runV (As := []) (rest := []) ⟨jx, jb, jml, jown, jts⟩ (c_Share_cells l D cI cB cZ h pP pS pB pA pC pF pN o (ho.2)) (zc_V 0 jts cd_Share_cells lk_Share_41 im_Share_cells se_Share_cells in_Share hd_Share_cells ⟨Nat.le_of_ble_eq_true rfl, Nat.le_of_ble_eq_true rfl⟩ rfl rfl) (z_preVR jK jP [0] rfl rfl rfl) rfl rfl jl.1 rfl (lv_room (Nat.le_of_ble_eq_true rfl)) d_Share_spreadOthers_1 ⟨Nat.le_of_ble_eq_true rfl, Nat.le_of_ble_eq_true rfl⟩) ?_
  refine lv_istore_n (lv' := [(2, .int (iZ (2 ^ o))), (0, .ref h), (1, .int (iZ x))]) jx jb d_Share_spreadOthers_4 rfl jl (by decide) rfl (fun ls jl => ?_)
  refine lv_iload_n jx jb d_Share_spreadOthers_5 rfl (lv_at jl 0 rfl) ?_
  refine lv_iconst (v := iZ 1) jx jb d_Share_spreadOthers_6 rfl ?_
  refine z_ishr jx jb d_Share_spreadOthers_7 1 2 (rfl) (by omega) ?_
  refine lv_iload_n jx jb d_Share_spreadOthers_8 rfl (lv_at jl 0 rfl) ?_
  refine lv_iconst (v := iZ 3) jx jb d_Share_spreadOthers_9 rfl ?_
  refine z_ishr jx jb d_Share_spreadOthers_10 3 8 (rfl) (by omega) ?_
  refine z_iadd jx jb d_Share_spreadOthers_11 ?_
  refine lv_iconst (v := iZ 3) jx jb d_Share_spreadOthers_12 rfl ?_
  refine z_iadd jx jb d_Share_spreadOthers_13 ?_
  refine z_top (stp o : Int) (stp_i) ?_
  refine lv_istore_n (lv' := [(3, .int (iZ (stp o : Int))), (2, .int (iZ (2 ^ o))), (0, .ref h), (1, .int (iZ x))]) jx jb d_Share_spreadOthers_14 rfl jl (by decide) rfl (fun ls jl => ?_)
  refine lv_iconst (v := iZ (-1)) jx jb d_Share_spreadOthers_15 rfl ?_
  refine lv_istore (lv' := [(4, .int (iZ (-1))), (3, .int (iZ (stp o : Int))), (2, .int (iZ (2 ^ o))), (0, .ref h), (1, .int (iZ x))]) jx jb d_Share_spreadOthers_16 jl (by decide) rfl (fun ls jl => ?_)
  refine lv_iconst (v := iZ 0) jx jb d_Share_spreadOthers_18 rfl ?_
  refine lv_istore (lv' := [(5, .int (iZ 0)), (4, .int (iZ (-1))), (3, .int (iZ (stp o : Int))), (2, .int (iZ (2 ^ o))), (0, .ref h), (1, .int (iZ x))]) jx jb d_Share_spreadOthers_19 jl (by decide) rfl (fun ls jl => ?_)
  refine lv_iconst (v := iZ 0) jx jb d_Share_spreadOthers_21 rfl ?_
  refine z_top (cel o 0 : Int) (by rw [cel_0]; rfl) ?_
  refine lv_istore (lv' := [(6, .int (iZ (cel o 0 : Int))), (5, .int (iZ 0)), (4, .int (iZ (-1))), (3, .int (iZ (stp o : Int))), (2, .int (iZ (2 ^ o))), (0, .ref h), (1, .int (iZ x))]) jx jb d_Share_spreadOthers_22 jl (by decide) rfl (fun ls jl => ?_)
  refine lv_iconst (v := iZ 0) jx jb d_Share_spreadOthers_24 rfl ?_
  refine lv_istore (lv' := [(7, .int (iZ 0)), (6, .int (iZ (cel o 0 : Int))), (5, .int (iZ 0)), (4, .int (iZ (-1))), (3, .int (iZ (stp o : Int))), (2, .int (iZ (2 ^ o))), (0, .ref h), (1, .int (iZ x))]) jx jb d_Share_spreadOthers_25 jl (by decide) rfl (fun ls jl => ?_)
  have hloop27 : ∀ (nF : Nat) (k : Nat) (a : Int) (b : Int) (s1 : Nat) (l1 : Int) (t2 : Nat → Int), 2 ^ o - k < nF → ((k : Int) ≤ 2 ^ o) → (sprd gP o x gS k = (t2, s1, l1)) → (stD gP a b s1 l1) → (-(k : Int) - 1 ≤ b ∧ b ≤ 65536) → ∀ (H : Heap) (locs : List Loc), va_P D classes [(h, .inr (1, [.ref pP, .ref pS, .ref pB, .ref pA, .ref pC, .ref pF, .ref pN, .int (iZ (o : Int))])), (pP, .inl (cI, 256, .inl (zA gP))), (pS, .inl (cI, 4096, .inl (zA t2)))] H → va_D A [(h, .inr (1, [.ref pP, .ref pS, .ref pB, .ref pA, .ref pC, .ref pF, .ref pN, .int (iZ (o : Int))])), (pP, .inl (cI, 256, .inl (zA gP))), (pS, .inl (cI, 4096, .inl (zA t2)))] → va_S A s.heap H locs → ∀ ls : Array Slot, lv_has ls 8 [(0, .ref h), (1, .int (iZ x)), (2, .int (iZ (2 ^ o))), (3, .int (iZ (stp o : Int))), (4, .int (iZ a)), (5, .int (iZ b)), (6, .int (iZ (cel o k : Int))), (7, .int (iZ (k : Int)))] → W p l e rm_Share_spreadOthers s m args below meth c H locs 0 0 Q (F0 m 27 ls []) := by
    intro nF
    induction nF with
    | zero => intro k a b s1 l1 t2 hm; exact absurd hm (Nat.not_lt_zero _)
    | succ nF ih27 =>
      intro k a b s1 l1 t2 hm hk hq hst hbr H locs jP jD jS ls jl
      have hcl := cel_lt o k
      refine lv_iload jx jb d_Share_spreadOthers_27 (lv_at jl 7 rfl) ?_
      refine lv_iload_n jx jb d_Share_spreadOthers_29 rfl (lv_at jl 2 rfl) ?_
      refine z_icmp_ge (tgt := 104) jx jb d_Share_spreadOthers_30 (by decide) ⟨⟨by omega, by omega⟩, ⟨by omega, by omega⟩⟩ (fun hc30 => ?_) (fun hc30 => ?_)
      ·
        obtain rfl : 2 ^ o = k := by omega
        exact jret _ _ (t2) _ _ (by rw [hq]) (jP.sub [0, 1, 2] rfl) (jD.sub [0, 1, 2] (by decide) rfl) jS d_Share_spreadOthers_104
      ·
        refine lv_iload jx jb d_Share_spreadOthers_33 (lv_at jl 6 rfl) ?_
        refine lv_iload_n jx jb d_Share_spreadOthers_35 rfl (lv_at jl 1 rfl) ?_
        refine z_icmp_ge (tgt := 88) jx jb d_Share_spreadOthers_36 (by decide) ⟨⟨by omega, by omega⟩, ⟨by omega, by omega⟩⟩ (fun hc36 => ?_) (fun hc36 => ?_)
        ·
          refine lv_iload jx jb d_Share_spreadOthers_88 (lv_at jl 6 rfl) ?_
          refine lv_iload_n jx jb d_Share_spreadOthers_90 rfl (lv_at jl 3 rfl) ?_
          refine z_iadd jx jb d_Share_spreadOthers_91 ?_
          refine lv_iload_n jx jb d_Share_spreadOthers_92 rfl (lv_at jl 2 rfl) ?_
          refine lv_iconst (v := iZ 1) jx jb d_Share_spreadOthers_93 rfl ?_
          refine z_isub jx jb d_Share_spreadOthers_94 ?_
          refine z_iand jx jb d_Share_spreadOthers_95 o (2 ^ o) (rfl) (rfl) (by omega) ?_
          refine z_top (cel o (k + 1) : Int) (cel_i o k) ?_
          refine lv_istore (lv' := [(6, .int (iZ (cel o (k + 1) : Int))), (0, .ref h), (1, .int (iZ x)), (2, .int (iZ (2 ^ o))), (3, .int (iZ (stp o : Int))), (4, .int (iZ a)), (5, .int (iZ b)), (7, .int (iZ (k : Int)))]) jx jb d_Share_spreadOthers_96 jl (by decide) rfl (fun ls jl => ?_)
          refine lv_iinc (v := iZ ((k : Int) + 1)) (lv' := [(7, .int (iZ ((k : Int) + 1))), (6, .int (iZ (cel o (k + 1) : Int))), (0, .ref h), (1, .int (iZ x)), (2, .int (iZ (2 ^ o))), (3, .int (iZ (stp o : Int))), (4, .int (iZ a)), (5, .int (iZ b))]) jx jb d_Share_spreadOthers_98 jl (k := 7) rfl (iZ_add _ _) (by decide) rfl (fun ls jl => ?_)
          refine lv_goto (tgt := 27) jx jb d_Share_spreadOthers_101 (by decide) ?_
          exact ih27 (k + 1) a b s1 l1 t2 (by omega) (by omega) (sprd_n hq (by omega)) (hst) (by omega) _ _ (jP.sub [0, 1, 2] rfl) (jD.sub [0, 1, 2] (by decide) rfl) jS _ (lv_sub jl [2, 3, 4, 5, 6, 7, 1, 0] rfl)
        ·
          refine lv_aload_n jx jb d_Share_spreadOthers_39 rfl (lv_at jl 0 rfl) ?_
          refine lv_iload jx jb d_Share_spreadOthers_40 (lv_at jl 6 rfl) ?_
          refine z_backr (va_runV (As := [.int (iZ (cel o k : Int))]) (rest := []) ⟨jx, jb, jml, jown, jts⟩ (c_Share_hasCell l D cI cB cZ h pP pS pB pA pC pF pN o (cel o k : Int) (ho.2) (by first | assumption | omega)) (zc_V 1 jts cd_Share_hasCell lk_Share_56 im_Share_hasCell se_Share_hasCell in_Share hd_Share_hasCell ⟨Nat.le_of_ble_eq_true rfl, Nat.le_of_ble_eq_true rfl⟩ rfl rfl) (z_preVR jK jP [0] rfl rfl rfl) rfl rfl jl.1 rfl (lv_room (Nat.le_of_ble_eq_true rfl)) d_Share_spreadOthers_42 ⟨Nat.le_of_ble_eq_true rfl, Nat.le_of_ble_eq_true rfl⟩) (fun z42 hz42 => ?_)
          rcases hz42 with ⟨rfl, hq42⟩ | ⟨rfl, hq42⟩
          ·
            refine z_if_eq (tgt := 88) jx jb d_Share_spreadOthers_45 (by decide) ⟨by decide, by decide⟩ (fun hc45 => ?_) (fun hc45 => ?_)
            ·
              exact absurd hc45 (by decide)
            ·
              have hloop48 : ∀ (nF : Nat) (a2 : Int) (b2 : Int), (255 - a2).toNat < nF → (stC gP (adv gP 256 s1 l1) a2 b2) → (-(k : Int) - 1 ≤ b2 ∧ b2 ≤ 65536) → ∀ (H : Heap) (locs : List Loc), va_P D classes [(h, .inr (1, [.ref pP, .ref pS, .ref pB, .ref pA, .ref pC, .ref pF, .ref pN, .int (iZ (o : Int))])), (pP, .inl (cI, 256, .inl (zA gP))), (pS, .inl (cI, 4096, .inl (zA t2)))] H → va_D A [(h, .inr (1, [.ref pP, .ref pS, .ref pB, .ref pA, .ref pC, .ref pF, .ref pN, .int (iZ (o : Int))])), (pP, .inl (cI, 256, .inl (zA gP))), (pS, .inl (cI, 4096, .inl (zA t2)))] → va_S A s.heap H locs → ∀ ls : Array Slot, lv_has ls 8 [(0, .ref h), (1, .int (iZ x)), (2, .int (iZ (2 ^ o))), (3, .int (iZ (stp o : Int))), (4, .int (iZ a2)), (5, .int (iZ b2)), (6, .int (iZ (cel o k : Int))), (7, .int (iZ (k : Int)))] → W p l e rm_Share_spreadOthers s m args below meth c H locs 0 0 Q (F0 m 48 ls []) := by
                intro nF
                induction nF with
                | zero => intro a2 b2 hm; exact absurd hm (Nat.not_lt_zero _)
                | succ nF ih48 =>
                  intro a2 b2 hm hsc hb2 H locs jP jD jS ls jl
                  have hab := stC_lo hsc
                  refine lv_iload jx jb d_Share_spreadOthers_48 (lv_at jl 5 rfl) ?_
                  refine z_if_gt (tgt := 76) jx jb d_Share_spreadOthers_50 (by decide) ⟨by omega, by omega⟩ (fun hc50 => ?_) (fun hc50 => ?_)
                  ·
                    obtain ⟨s2, hsa, hs2, hT⟩ := stC_e hsc (by omega)
                    refine lv_aload_n jx jb d_Share_spreadOthers_76 rfl (lv_at jl 0 rfl) ?_
                    refine va_get (D := D) (ci := 1) (v := .ref pS) (C := R_Share) (T := F_Share) (N := 8) jx jb jts i_Share jown jK.1 jP 0 rfl rfl 1 (by decide) (jts _ fl_Share_15) (fun _ h9 => h9) rfl d_Share_spreadOthers_77 ?_
                    refine lv_iload jx jb d_Share_spreadOthers_80 (lv_at jl 6 rfl) ?_
                    refine lv_iload jx jb d_Share_spreadOthers_82 (lv_at jl 4 rfl) ?_
                    refine z_iast jx jb jK.1 jP jD jS 2 0 rfl rfl (cel o k) (by omega) d_Share_spreadOthers_84 (fun H locs jP jD jS => ?_)
                    have jP : va_P D classes [(h, .inr (1, [.ref pP, .ref pS, .ref pB, .ref pA, .ref pC, .ref pF, .ref pN, .int (iZ (o : Int))])), (pP, .inl (cI, 256, .inl (zA gP))), (pS, .inl (cI, 4096, .inl (zA (zu t2 (cel o k) a2))))] H := jP
                    have jD : va_D A [(h, .inr (1, [.ref pP, .ref pS, .ref pB, .ref pA, .ref pC, .ref pF, .ref pN, .int (iZ (o : Int))])), (pP, .inl (cI, 256, .inl (zA gP))), (pS, .inl (cI, 4096, .inl (zA (zu t2 (cel o k) a2))))] := jD
                    refine lv_iinc (v := iZ (b2 + (-1))) (lv' := [(5, .int (iZ (b2 + (-1)))), (0, .ref h), (1, .int (iZ x)), (2, .int (iZ (2 ^ o))), (3, .int (iZ (stp o : Int))), (4, .int (iZ a2)), (6, .int (iZ (cel o k : Int))), (7, .int (iZ (k : Int)))]) jx jb d_Share_spreadOthers_85 jl (k := 5) rfl (iZ_add _ _) (by decide) rfl (fun ls jl => ?_)
                    refine lv_iload jx jb d_Share_spreadOthers_88 (lv_at jl 6 rfl) ?_
                    refine lv_iload_n jx jb d_Share_spreadOthers_90 rfl (lv_at jl 4 rfl) ?_
                    refine z_iadd jx jb d_Share_spreadOthers_91 ?_
                    refine lv_iload_n jx jb d_Share_spreadOthers_92 rfl (lv_at jl 3 rfl) ?_
                    refine lv_iconst (v := iZ 1) jx jb d_Share_spreadOthers_93 rfl ?_
                    refine z_isub jx jb d_Share_spreadOthers_94 ?_
                    refine z_iand jx jb d_Share_spreadOthers_95 o (2 ^ o) (rfl) (rfl) (by omega) ?_
                    refine z_top (cel o (k + 1) : Int) (cel_i o k) ?_
                    refine lv_istore (lv' := [(6, .int (iZ (cel o (k + 1) : Int))), (5, .int (iZ (b2 + (-1)))), (0, .ref h), (1, .int (iZ x)), (2, .int (iZ (2 ^ o))), (3, .int (iZ (stp o : Int))), (4, .int (iZ a2)), (7, .int (iZ (k : Int)))]) jx jb d_Share_spreadOthers_96 jl (by decide) rfl (fun ls jl => ?_)
                    refine lv_iinc (v := iZ ((k : Int) + 1)) (lv' := [(7, .int (iZ ((k : Int) + 1))), (6, .int (iZ (cel o (k + 1) : Int))), (5, .int (iZ (b2 + (-1)))), (0, .ref h), (1, .int (iZ x)), (2, .int (iZ (2 ^ o))), (3, .int (iZ (stp o : Int))), (4, .int (iZ a2))]) jx jb d_Share_spreadOthers_98 jl (k := 7) rfl (iZ_add _ _) (by decide) rfl (fun ls jl => ?_)
                    refine lv_goto (tgt := 27) jx jb d_Share_spreadOthers_101 (by decide) ?_
                    exact ih27 (k + 1) a2 (b2 + (-1)) s2 (b2 - 1) (zu t2 (cel o k) a2) (by omega) (by omega) (by rw [hsa]; exact sprd_s hq (by omega) hT) (Or.inr ⟨hsa, hs2, rfl⟩) (by omega) _ _ (jP.sub [0, 1, 2] rfl) (jD.sub [0, 1, 2] (by decide) rfl) jS _ (lv_sub jl [3, 4, 5, 6, 7, 2, 1, 0] rfl)
                  ·
                    refine lv_iload jx jb d_Share_spreadOthers_53 (lv_at jl 4 rfl) ?_
                    refine lv_sipush (v := iZ 255) jx jb d_Share_spreadOthers_55 (by decide) ?_
                    refine z_icmp_ge (tgt := 76) jx jb d_Share_spreadOthers_58 (by decide) ⟨⟨by omega, by omega⟩, ⟨by decide, by decide⟩⟩ (fun hc58 => ?_) (fun hc58 => ?_)
                    ·
                      obtain ⟨s2, hsa, hs2, hT⟩ := stC_e hsc (by omega)
                      refine lv_aload_n jx jb d_Share_spreadOthers_76 rfl (lv_at jl 0 rfl) ?_
                      refine va_get (D := D) (ci := 1) (v := .ref pS) (C := R_Share) (T := F_Share) (N := 8) jx jb jts i_Share jown jK.1 jP 0 rfl rfl 1 (by decide) (jts _ fl_Share_15) (fun _ h9 => h9) rfl d_Share_spreadOthers_77 ?_
                      refine lv_iload jx jb d_Share_spreadOthers_80 (lv_at jl 6 rfl) ?_
                      refine lv_iload jx jb d_Share_spreadOthers_82 (lv_at jl 4 rfl) ?_
                      refine z_iast jx jb jK.1 jP jD jS 2 0 rfl rfl (cel o k) (by omega) d_Share_spreadOthers_84 (fun H locs jP jD jS => ?_)
                      have jP : va_P D classes [(h, .inr (1, [.ref pP, .ref pS, .ref pB, .ref pA, .ref pC, .ref pF, .ref pN, .int (iZ (o : Int))])), (pP, .inl (cI, 256, .inl (zA gP))), (pS, .inl (cI, 4096, .inl (zA (zu t2 (cel o k) a2))))] H := jP
                      have jD : va_D A [(h, .inr (1, [.ref pP, .ref pS, .ref pB, .ref pA, .ref pC, .ref pF, .ref pN, .int (iZ (o : Int))])), (pP, .inl (cI, 256, .inl (zA gP))), (pS, .inl (cI, 4096, .inl (zA (zu t2 (cel o k) a2))))] := jD
                      refine lv_iinc (v := iZ (b2 + (-1))) (lv' := [(5, .int (iZ (b2 + (-1)))), (0, .ref h), (1, .int (iZ x)), (2, .int (iZ (2 ^ o))), (3, .int (iZ (stp o : Int))), (4, .int (iZ a2)), (6, .int (iZ (cel o k : Int))), (7, .int (iZ (k : Int)))]) jx jb d_Share_spreadOthers_85 jl (k := 5) rfl (iZ_add _ _) (by decide) rfl (fun ls jl => ?_)
                      refine lv_iload jx jb d_Share_spreadOthers_88 (lv_at jl 6 rfl) ?_
                      refine lv_iload_n jx jb d_Share_spreadOthers_90 rfl (lv_at jl 4 rfl) ?_
                      refine z_iadd jx jb d_Share_spreadOthers_91 ?_
                      refine lv_iload_n jx jb d_Share_spreadOthers_92 rfl (lv_at jl 3 rfl) ?_
                      refine lv_iconst (v := iZ 1) jx jb d_Share_spreadOthers_93 rfl ?_
                      refine z_isub jx jb d_Share_spreadOthers_94 ?_
                      refine z_iand jx jb d_Share_spreadOthers_95 o (2 ^ o) (rfl) (rfl) (by omega) ?_
                      refine z_top (cel o (k + 1) : Int) (cel_i o k) ?_
                      refine lv_istore (lv' := [(6, .int (iZ (cel o (k + 1) : Int))), (5, .int (iZ (b2 + (-1)))), (0, .ref h), (1, .int (iZ x)), (2, .int (iZ (2 ^ o))), (3, .int (iZ (stp o : Int))), (4, .int (iZ a2)), (7, .int (iZ (k : Int)))]) jx jb d_Share_spreadOthers_96 jl (by decide) rfl (fun ls jl => ?_)
                      refine lv_iinc (v := iZ ((k : Int) + 1)) (lv' := [(7, .int (iZ ((k : Int) + 1))), (6, .int (iZ (cel o (k + 1) : Int))), (5, .int (iZ (b2 + (-1)))), (0, .ref h), (1, .int (iZ x)), (2, .int (iZ (2 ^ o))), (3, .int (iZ (stp o : Int))), (4, .int (iZ a2))]) jx jb d_Share_spreadOthers_98 jl (k := 7) rfl (iZ_add _ _) (by decide) rfl (fun ls jl => ?_)
                      refine lv_goto (tgt := 27) jx jb d_Share_spreadOthers_101 (by decide) ?_
                      exact ih27 (k + 1) a2 (b2 + (-1)) s2 (b2 - 1) (zu t2 (cel o k) a2) (by omega) (by omega) (by rw [hsa]; exact sprd_s hq (by omega) hT) (Or.inr ⟨hsa, hs2, rfl⟩) (by omega) _ _ (jP.sub [0, 1, 2] rfl) (jD.sub [0, 1, 2] (by decide) rfl) jS _ (lv_sub jl [3, 4, 5, 6, 7, 2, 1, 0] rfl)
                    ·
                      refine lv_iinc (v := iZ (a2 + 1)) (lv' := [(4, .int (iZ (a2 + 1))), (0, .ref h), (1, .int (iZ x)), (2, .int (iZ (2 ^ o))), (3, .int (iZ (stp o : Int))), (5, .int (iZ b2)), (6, .int (iZ (cel o k : Int))), (7, .int (iZ (k : Int)))]) jx jb d_Share_spreadOthers_61 jl (k := 4) rfl (iZ_add _ _) (by decide) rfl (fun ls jl => ?_)
                      refine lv_aload_n jx jb d_Share_spreadOthers_64 rfl (lv_at jl 1 rfl) ?_
                      refine va_get (D := D) (ci := 1) (v := .ref pP) (C := R_Share) (T := F_Share) (N := 8) jx jb jts i_Share jown jK.1 jP 0 rfl rfl 0 (by decide) (jts _ fl_Share_9) (fun _ h9 => h9) rfl d_Share_spreadOthers_65 ?_
                      refine lv_iload jx jb d_Share_spreadOthers_68 (lv_at jl 0 rfl) ?_
                      have hpa := hpr (a2 + 1).toNat (by omega)
                      refine z_iald jx jb jK.1 jP 1 0 rfl rfl ((a2 + 1).toNat) (by omega) d_Share_spreadOthers_70 ?_
                      refine lv_istore (lv' := [(5, .int (iZ (gP ((a2 + 1).toNat)))), (4, .int (iZ (a2 + 1))), (0, .ref h), (1, .int (iZ x)), (2, .int (iZ (2 ^ o))), (3, .int (iZ (stp o : Int))), (6, .int (iZ (cel o k : Int))), (7, .int (iZ (k : Int)))]) jx jb d_Share_spreadOthers_71 jl (by decide) rfl (fun ls jl => ?_)
                      refine lv_goto (tgt := 48) jx jb d_Share_spreadOthers_73 (by decide) ?_
                      exact ih48 (a2 + 1) (gP ((a2 + 1).toNat)) (by omega) (stC_s hsc (by omega) (by omega)) (by first | assumption | omega) _ _ (jP.sub [0, 1, 2] rfl) (jD.sub [0, 1, 2] (by decide) rfl) jS _ (lv_sub jl [2, 3, 4, 5, 1, 0, 6, 7] rfl)
              exact hloop48 (((255 - a).toNat) + 1) a b (Nat.lt_succ_self _) (stD_C hst) (hbr) _ _ (jP.sub [0, 1, 2] rfl) (jD.sub [0, 1, 2] (by decide) rfl) jS _ (lv_sub jl [0, 1, 2, 3, 4, 5, 6, 7] rfl)
          ·
            exfalso; omega
  exact hloop27 ((2 ^ o - 0) + 1) 0 (-1) 0 0 (gP 0) gS (Nat.lt_succ_self _) (by first | assumption | omega) (rfl) (Or.inl ⟨rfl, rfl, rfl, rfl⟩) (by first | assumption | omega) _ _ (jP.sub [0, 1, 2] rfl) (jD.sub [0, 1, 2] (by decide) rfl) jS _ (lv_sub jl [6, 7, 5, 4, 3, 2, 1, 0] rfl)
abbrev rm_Share_numberCells : Room := { frames := 3, cells := 0, slots := 0, locals := 66 }
set_option maxHeartbeats 4000000 in
set_option maxRecDepth 100000 in
theorem c_Share_numberCells (l : Launch) (D : va_G) (cI cB cZ : ClassId) (sz : Nat) (h : Nat) (pP : Nat) (pS : Nat) (pB : Nat) (pA : Nat) (pC : Nat) (pF : Nat) (pN : Nat) (o : Nat) (gP : Nat → Int) (gS : Nat → Int) (gB : Nat → Int) (gA : Nat → Int) (gC : Nat → Int) (gF : Nat → Int) (gN : Nat → Int) (ho : 5 ≤ o ∧ o ≤ 12) (hpr : ∀ k, k < 256 → -1 ≤ gP k ∧ gP k ≤ 65536) (hsum : cum gP 256 = 2 ^ o) (hgs : ∀ k : Nat, (k : Int) < 2 ^ o → 0 ≤ gS k ∧ gS k < 256) (hcn : ∀ s : Nat, s < 256 → cntS gS s (2 ^ o) ≤ wgt (gP s)) (hF : ∀ k, k < 256 → gF k = cum gP k) (hN : ∀ k, k < 256 → gN k = wgt (gP k)) : Met l y_Share_numberCells (.code y_Share_numberCells b_Share_numberCells 3 none :: zT) rm_Share_numberCells (zPc D classes (TY cI cB cZ) [(h, .inr (1, [.ref pP, .ref pS, .ref pB, .ref pA, .ref pC, .ref pF, .ref pN, .int (iZ (o : Int))])), (pP, .inl (cI, 256, .inl (zA gP))), (pS, .inl (cI, 4096, .inl (zA gS))), (pB, .inl (cI, 4096, .inl (zA gB))), (pA, .inl (cI, 4096, .inl (zA gA))), (pC, .inl (cI, 4096, .inl (zA gC))), (pF, .inl (cI, 256, .inl (zA gF))), (pN, .inl (cI, 256, .inl (zA gN)))] sz [.ref h]) (zFv (S := (Nat → Int) × (Nat → Int) × (Nat → Int) × (Nat → Int)) D classes (fun u => numT4 gP gS o (2 ^ o) u.1 u.2.1 u.2.2.1) (fun u => [(h, .inr (1, [.ref pP, .ref pS, .ref pB, .ref pA, .ref pC, .ref pF, .ref pN, .int (iZ (o : Int))])), (pP, .inl (cI, 256, .inl (zA gP))), (pS, .inl (cI, 4096, .inl (zA gS))), (pB, .inl (cI, 4096, .inl (zA u.1))), (pA, .inl (cI, 4096, .inl (zA u.2.1))), (pC, .inl (cI, 4096, .inl (zA u.2.2.1))), (pF, .inl (cI, 256, .inl (zA gF))), (pN, .inl (cI, 256, .inl (zA u.2.2.2)))]) (va_A [(h, .inr (1, [.ref pP, .ref pS, .ref pB, .ref pA, .ref pC, .ref pF, .ref pN, .int (iZ (o : Int))])), (pP, .inl (cI, 256, .inl (zA gP))), (pS, .inl (cI, 4096, .inl (zA gS))), (pB, .inl (cI, 4096, .inl (zA gB))), (pA, .inl (cI, 4096, .inl (zA gA))), (pC, .inl (cI, 4096, .inl (zA gC))), (pF, .inl (cI, 256, .inl (zA gF))), (pN, .inl (cI, 256, .inl (zA gN)))] sz)) 0 0 (va_A [(h, .inr (1, [.ref pP, .ref pS, .ref pB, .ref pA, .ref pC, .ref pF, .ref pN, .int (iZ (o : Int))])), (pP, .inl (cI, 256, .inl (zA gP))), (pS, .inl (cI, 4096, .inl (zA gS))), (pB, .inl (cI, 4096, .inl (zA gB))), (pA, .inl (cI, 4096, .inl (zA gA))), (pC, .inl (cI, 4096, .inl (zA gC))), (pF, .inl (cI, 256, .inl (zA gF))), (pN, .inl (cI, 256, .inl (zA gN)))] sz) := by
  refine z_ofv (by decide) (Nat.le_of_ble_eq_true rfl) rfl ?_
  intro p e s m args below meth c A Q E jmn jA jK jret H locs jP jD jS ls jl
  obtain ⟨jx, jb, jrt, jml, jown, jts, jlk⟩ := E
  have jown : s.vm.findClass R_Share = some m.cls := jown
  have hp12 := p2_le ho.2
  have hp0 := p2_pos o
  have hpn := p2n o
  have jl : lv_has ls 3 [(0, .ref h)] := jl
  refine lv_iconst (v := iZ 0) jx jb d_Share_numberCells_0 rfl ?_
  refine lv_istore_n (lv' := [(1, .int (iZ 0)), (0, .ref h)]) jx jb d_Share_numberCells_1 rfl jl (by decide) rfl (fun ls jl => ?_)
  have hloop2 : ∀ (nF : Nat) (k : Nat) (b2 : Nat → Int) (a2 : Nat → Int) (c2 : Nat → Int) (n2 : Nat → Int), 2 ^ o - k < nF → ((k : Int) ≤ 2 ^ o) → (numT4 gP gS o k b2 a2 c2) → (∀ s : Nat, s < 256 → n2 s = wgt (gP s) + cntS gS s k) → ∀ (H : Heap) (locs : List Loc), va_P D classes [(h, .inr (1, [.ref pP, .ref pS, .ref pB, .ref pA, .ref pC, .ref pF, .ref pN, .int (iZ (o : Int))])), (pP, .inl (cI, 256, .inl (zA gP))), (pS, .inl (cI, 4096, .inl (zA gS))), (pB, .inl (cI, 4096, .inl (zA b2))), (pA, .inl (cI, 4096, .inl (zA a2))), (pC, .inl (cI, 4096, .inl (zA c2))), (pF, .inl (cI, 256, .inl (zA gF))), (pN, .inl (cI, 256, .inl (zA n2)))] H → va_D A [(h, .inr (1, [.ref pP, .ref pS, .ref pB, .ref pA, .ref pC, .ref pF, .ref pN, .int (iZ (o : Int))])), (pP, .inl (cI, 256, .inl (zA gP))), (pS, .inl (cI, 4096, .inl (zA gS))), (pB, .inl (cI, 4096, .inl (zA b2))), (pA, .inl (cI, 4096, .inl (zA a2))), (pC, .inl (cI, 4096, .inl (zA c2))), (pF, .inl (cI, 256, .inl (zA gF))), (pN, .inl (cI, 256, .inl (zA n2)))] → va_S A s.heap H locs → ∀ ls : Array Slot, lv_has ls 3 [(0, .ref h), (1, .int (iZ (k : Int)))] → W p l e rm_Share_numberCells s m args below meth c H locs 0 0 Q (F0 m 2 ls []) := by
    intro nF
    induction nF with
    | zero => intro k b2 a2 c2 n2 hm; exact absurd hm (Nat.not_lt_zero _)
    | succ nF ih2 =>
      intro k b2 a2 c2 n2 hm hk h1 h2 H locs jP jD jS ls jl
      refine lv_iload_n jx jb d_Share_numberCells_2 rfl (lv_at jl 1 rfl) ?_
      refine lv_aload_n jx jb d_Share_numberCells_3 rfl (lv_at jl 0 rfl) ?_
      refine z_backe (va_runV (As := []) (rest := [.int (iZ (k : Int))]) ⟨jx, jb, jml, jown, jts⟩ (c_Share_cells l D cI cB cZ h pP pS pB pA pC pF pN o (ho.2)) (zc_V 0 jts cd_Share_cells lk_Share_41 im_Share_cells se_Share_cells in_Share hd_Share_cells ⟨Nat.le_of_ble_eq_true rfl, Nat.le_of_ble_eq_true rfl⟩ rfl rfl) (z_preVR jK jP [0] rfl rfl rfl) rfl rfl jl.1 rfl (lv_room (Nat.le_of_ble_eq_true rfl)) d_Share_numberCells_4 ⟨Nat.le_of_ble_eq_true rfl, Nat.le_of_ble_eq_true rfl⟩) ?_
      refine z_icmp_ge (tgt := 59) jx jb d_Share_numberCells_7 (by decide) ⟨⟨by omega, by omega⟩, ⟨by omega, by omega⟩⟩ (fun hc7 => ?_) (fun hc7 => ?_)
      ·
        exact jret _ _ (b2, a2, c2, n2) _ _ (by rw [show (2 ^ o : Nat) = k by omega]; exact h1) (jP.sub [0, 1, 2, 3, 4, 5, 6, 7] rfl) (jD.sub [0, 1, 2, 3, 4, 5, 6, 7] (by decide) rfl) jS d_Share_numberCells_59
      ·
        refine lv_iload_n jx jb d_Share_numberCells_10 rfl (lv_at jl 1 rfl) ?_
        refine lv_sipush (v := iZ 4096) jx jb d_Share_numberCells_11 (by decide) ?_
        refine z_icmp_ge (tgt := 59) jx jb d_Share_numberCells_14 (by decide) ⟨⟨by omega, by omega⟩, ⟨by decide, by decide⟩⟩ (fun hc14 => ?_) (fun hc14 => ?_)
        ·
          exfalso; omega
        ·
          refine lv_aload_n jx jb d_Share_numberCells_17 rfl (lv_at jl 0 rfl) ?_
          refine va_get (D := D) (ci := 1) (v := .ref pS) (C := R_Share) (T := F_Share) (N := 8) jx jb jts i_Share jown jK.1 jP 0 rfl rfl 1 (by decide) (jts _ fl_Share_15) (fun _ h9 => h9) rfl d_Share_numberCells_18 ?_
          refine lv_iload_n jx jb d_Share_numberCells_21 rfl (lv_at jl 1 rfl) ?_
          refine z_iald jx jb jK.1 jP 2 0 rfl rfl k (by omega) d_Share_numberCells_22 ?_
          refine lv_istore_n (lv' := [(2, .int (iZ (gS k))), (0, .ref h), (1, .int (iZ (k : Int)))]) jx jb d_Share_numberCells_23 rfl jl (by decide) rfl (fun ls jl => ?_)
          refine lv_iload_n jx jb d_Share_numberCells_24 rfl (lv_at jl 0 rfl) ?_
          have hgk := hgs k (by omega)
          refine z_backr (va_runSN (As := [.int (iZ (gS k))]) (rest := []) ⟨jx, jb, jml, jown, jts⟩ (c_isSymbol l D cI cB cZ (gS k) (by first | assumption | omega)) (zc_SN 1 jts cd_SC_isSymbol (jK.nest ln_Share_45 rfl) st_SC_isSymbol in_SC hd_SC_isSymbol ⟨Nat.le_of_ble_eq_true rfl, Nat.le_of_ble_eq_true rfl⟩ rfl rfl) (z_preSR jK jP [] rfl) rfl rfl jl.1 rfl (lv_room (Nat.le_of_ble_eq_true rfl)) d_Share_numberCells_25 ⟨Nat.le_of_ble_eq_true rfl, Nat.le_of_ble_eq_true rfl⟩) (fun z25 hz25 => ?_)
          rcases hz25 with ⟨rfl, hq25⟩ | ⟨rfl, hq25⟩
          ·
            obtain ⟨v, hvv⟩ : ∃ v : Nat, gS k = (v : Int) := ⟨(gS k).toNat, by omega⟩
            have hv6 : v < 256 := by omega
            have hnv := h2 v hv6
            have hcl := cntS_lo gS v k
            have hct := cnt_lt hvv (show k < 2 ^ o by omega)
            have hcv := hcn v hv6
            have hfit := cum_fit hpr (y := v) hv6
            have hcum := cum_lo hpr (b := v) (by omega)
            have hFv := hF v hv6
            have hwb := wgt_b (hpr v hv6)
            have hps := p2_s o
            have hvn : (gS k).toNat = v := by omega
            refine z_if_eq (tgt := 53) jx jb d_Share_numberCells_28 (by decide) ⟨by decide, by decide⟩ (fun hc28 => ?_) (fun hc28 => ?_)
            ·
              exact absurd hc28 (by decide)
            ·
              refine lv_aload_n jx jb d_Share_numberCells_31 rfl (lv_at jl 1 rfl) ?_
              refine lv_iload_n jx jb d_Share_numberCells_32 rfl (lv_at jl 2 rfl) ?_
              refine lv_iload_n jx jb d_Share_numberCells_33 rfl (lv_at jl 0 rfl) ?_
              refine lv_aload_n jx jb d_Share_numberCells_34 rfl (lv_at jl 1 rfl) ?_
              refine va_get (D := D) (ci := 1) (v := .ref pN) (C := R_Share) (T := F_Share) (N := 8) jx jb jts i_Share jown jK.1 jP 0 rfl rfl 6 (by decide) (jts _ fl_Share_30) (fun _ h9 => h9) rfl d_Share_numberCells_35 ?_
              refine lv_iload_n jx jb d_Share_numberCells_38 rfl (lv_at jl 0 rfl) ?_
              refine z_iald jx jb jK.1 jP 7 0 rfl rfl ((gS k).toNat) (by omega) d_Share_numberCells_39 ?_
              refine z_top (wgt (gP v) + cntS gS v k) (by rw [hvn]; exact hnv) ?_
              refine z_backv (wr := [(pS, .inl (cI, 4096, .inl (zA gS))), (pN, .inl (cI, 256, .inl (zA n2)))]) jP jD jS jA [0, 1, 6, 5, 3, 4] [2, 7] rfl rfl (by decide) (by decide) (va_runV (As := [.int (iZ (k : Int)), .int (iZ (gS k)), .int (iZ (wgt (gP v) + cntS gS v k))]) (rest := []) ⟨jx, jb, jml, jown, jts⟩ (c_Share_giveNumber l D cI cB cZ H.size h pP pS pB pA pC pF pN o gP gF c2 b2 a2 (k : Int) (gS k) (wgt (gP v) + cntS gS v k) (ho.2) (by first | assumption | omega) (by first | assumption | omega) (by first | assumption | omega) (by first | assumption | omega) (by rw [hvn]; omega) (by omega)) (zc_V 3 jts cd_Share_giveNumber lk_Share_79 im_Share_giveNumber se_Share_giveNumber in_Share hd_Share_giveNumber ⟨Nat.le_of_ble_eq_true rfl, Nat.le_of_ble_eq_true rfl⟩ rfl rfl) (z_preV jK jP jD [0, 1, 6, 5, 3, 4] (by decide) rfl rfl rfl rfl) rfl rfl jl.1 rfl (lv_room (Nat.le_of_ble_eq_true rfl)) d_Share_numberCells_40 ⟨Nat.le_of_ble_eq_true rfl, Nat.le_of_ble_eq_true rfl⟩) (fun u40 H locs hu40 jP jD jS => ?_)
              have jP : va_P D classes [(h, .inr (1, [.ref pP, .ref pS, .ref pB, .ref pA, .ref pC, .ref pF, .ref pN, .int (iZ (o : Int))])), (pP, .inl (cI, 256, .inl (zA gP))), (pS, .inl (cI, 4096, .inl (zA gS))), (pB, .inl (cI, 4096, .inl (zA (zu b2 (k : Int).toNat ((o : Int) - (zlog (wgt (gP v) + cntS gS v k) : Int)))))), (pA, .inl (cI, 4096, .inl (zA (zu a2 (k : Int).toNat ((wgt (gP v) + cntS gS v k) * 2 ^ (o - zlog (wgt (gP v) + cntS gS v k)) - 2 ^ o))))), (pC, .inl (cI, 4096, .inl (zA (zu c2 (gF (gS k).toNat + (wgt (gP v) + cntS gS v k) - wgt (gP (gS k).toNat)).toNat (k : Int))))), (pF, .inl (cI, 256, .inl (zA gF))), (pN, .inl (cI, 256, .inl (zA n2)))] H := jP.sub [2, 3, 0, 6, 7, 5, 4, 1] rfl
              have jD : va_D A [(h, .inr (1, [.ref pP, .ref pS, .ref pB, .ref pA, .ref pC, .ref pF, .ref pN, .int (iZ (o : Int))])), (pP, .inl (cI, 256, .inl (zA gP))), (pS, .inl (cI, 4096, .inl (zA gS))), (pB, .inl (cI, 4096, .inl (zA (zu b2 (k : Int).toNat ((o : Int) - (zlog (wgt (gP v) + cntS gS v k) : Int)))))), (pA, .inl (cI, 4096, .inl (zA (zu a2 (k : Int).toNat ((wgt (gP v) + cntS gS v k) * 2 ^ (o - zlog (wgt (gP v) + cntS gS v k)) - 2 ^ o))))), (pC, .inl (cI, 4096, .inl (zA (zu c2 (gF (gS k).toNat + (wgt (gP v) + cntS gS v k) - wgt (gP (gS k).toNat)).toNat (k : Int))))), (pF, .inl (cI, 256, .inl (zA gF))), (pN, .inl (cI, 256, .inl (zA n2)))] := jD.sub [2, 3, 0, 6, 7, 5, 4, 1] (by decide) rfl
              refine lv_aload_n jx jb d_Share_numberCells_43 rfl (lv_at jl 1 rfl) ?_
              refine va_get (D := D) (ci := 1) (v := .ref pN) (C := R_Share) (T := F_Share) (N := 8) jx jb jts i_Share jown jK.1 jP 0 rfl rfl 6 (by decide) (jts _ fl_Share_30) (fun _ h9 => h9) rfl d_Share_numberCells_44 ?_
              refine lv_iload_n jx jb d_Share_numberCells_47 rfl (lv_at jl 0 rfl) ?_
              refine lv_dup2_11 jx jb d_Share_numberCells_48 rfl rfl ?_
              refine z_iald jx jb jK.1 jP 7 0 rfl rfl v (by omega) d_Share_numberCells_49 ?_
              refine lv_iconst (v := iZ 1) jx jb d_Share_numberCells_50 rfl ?_
              refine z_iadd jx jb d_Share_numberCells_51 ?_
              refine z_iast jx jb jK.1 jP jD jS 7 0 rfl rfl v (by omega) d_Share_numberCells_52 (fun H locs jP jD jS => ?_)
              have jP : va_P D classes [(h, .inr (1, [.ref pP, .ref pS, .ref pB, .ref pA, .ref pC, .ref pF, .ref pN, .int (iZ (o : Int))])), (pP, .inl (cI, 256, .inl (zA gP))), (pS, .inl (cI, 4096, .inl (zA gS))), (pB, .inl (cI, 4096, .inl (zA (zu b2 (k : Int).toNat ((o : Int) - (zlog (wgt (gP v) + cntS gS v k) : Int)))))), (pA, .inl (cI, 4096, .inl (zA (zu a2 (k : Int).toNat ((wgt (gP v) + cntS gS v k) * 2 ^ (o - zlog (wgt (gP v) + cntS gS v k)) - 2 ^ o))))), (pC, .inl (cI, 4096, .inl (zA (zu c2 (gF (gS k).toNat + (wgt (gP v) + cntS gS v k) - wgt (gP (gS k).toNat)).toNat (k : Int))))), (pF, .inl (cI, 256, .inl (zA gF))), (pN, .inl (cI, 256, .inl (zA (zu n2 v ((n2 v) + 1)))))] H := jP
              have jD : va_D A [(h, .inr (1, [.ref pP, .ref pS, .ref pB, .ref pA, .ref pC, .ref pF, .ref pN, .int (iZ (o : Int))])), (pP, .inl (cI, 256, .inl (zA gP))), (pS, .inl (cI, 4096, .inl (zA gS))), (pB, .inl (cI, 4096, .inl (zA (zu b2 (k : Int).toNat ((o : Int) - (zlog (wgt (gP v) + cntS gS v k) : Int)))))), (pA, .inl (cI, 4096, .inl (zA (zu a2 (k : Int).toNat ((wgt (gP v) + cntS gS v k) * 2 ^ (o - zlog (wgt (gP v) + cntS gS v k)) - 2 ^ o))))), (pC, .inl (cI, 4096, .inl (zA (zu c2 (gF (gS k).toNat + (wgt (gP v) + cntS gS v k) - wgt (gP (gS k).toNat)).toNat (k : Int))))), (pF, .inl (cI, 256, .inl (zA gF))), (pN, .inl (cI, 256, .inl (zA (zu n2 v ((n2 v) + 1)))))] := jD
              refine lv_iinc (v := iZ ((k : Int) + 1)) (lv' := [(1, .int (iZ ((k : Int) + 1))), (2, .int (iZ (gS k))), (0, .ref h)]) jx jb d_Share_numberCells_53 jl (k := 2) rfl (iZ_add _ _) (by decide) rfl (fun ls jl => ?_)
              refine lv_goto (tgt := 2) jx jb d_Share_numberCells_56 (by decide) ?_
              exact ih2 (k + 1) (zu b2 (k : Int).toNat ((o : Int) - (zlog (wgt (gP v) + cntS gS v k) : Int))) (zu a2 (k : Int).toNat ((wgt (gP v) + cntS gS v k) * 2 ^ (o - zlog (wgt (gP v) + cntS gS v k)) - 2 ^ o)) (zu c2 (gF (gS k).toNat + (wgt (gP v) + cntS gS v k) - wgt (gP (gS k).toNat)).toNat (k : Int)) (zu n2 v ((n2 v) + 1)) (by omega) (by first | assumption | omega) (numT4_s h1 hpr hsum hgs hcn (by omega) hvv hF) (numN_s h2 hvv (by omega)) _ _ (jP.sub [0, 1, 2, 3, 4, 5, 6, 7] rfl) (jD.sub [0, 1, 2, 3, 4, 5, 6, 7] (by decide) rfl) jS _ (lv_sub jl [2, 0] rfl)
          ·
            exfalso; omega
  exact hloop2 ((2 ^ o - 0) + 1) 0 gB gA gC gN (Nat.lt_succ_self _) (by first | assumption | omega) (numT4_0) (fun s hs => by rw [hN s hs]; exact (Int.add_zero _).symm) _ _ (jP.sub [0, 1, 2, 3, 4, 5, 6, 7] rfl) (jD.sub [0, 1, 2, 3, 4, 5, 6, 7] (by decide) rfl) jS _ (lv_sub jl [1, 0] rfl)
