theorem cd_Share_spreadSingles : Cond.code y_Share_spreadSingles b_Share_spreadSingles 3 (some .int) ∈ zT := zT_of (List.mem_of_getElem? (i := 252) (by decide +kernel)) rfl
theorem hd_Share_spreadSingles : y_Share_spreadSingles.cls ≠ "java/lang/invoke/MethodHandle" ∧ y_Share_spreadSingles.cls ≠ "java/lang/invoke/VarHandle" ∧ (parseMethodDescriptor y_Share_spreadSingles.desc).map (fun d => d.parameters.length) = some 0 := by decide +kernel
theorem lk_Share_63 : Cond.methodLink R_Share 63 y_Share_spreadSingles ∈ zT := zT_of (List.mem_of_getElem? (i := 249) (by decide +kernel)) rfl
theorem im_Share_spreadSingles : Cond.instanceMethod y_Share_spreadSingles ∈ zT := zT_of (List.mem_of_getElem? (i := 251) (by decide +kernel)) rfl
theorem se_Share_spreadSingles : Cond.selects R_Share y_Share_spreadSingles y_Share_spreadSingles ∈ zT := zT_of (List.mem_of_getElem? (i := 4) (by decide +kernel)) rfl
theorem cd_Share_spreadOthers : Cond.code y_Share_spreadOthers b_Share_spreadOthers 8 none ∈ zT := zT_of (List.mem_of_getElem? (i := 268) (by decide +kernel)) rfl
theorem hd_Share_spreadOthers : y_Share_spreadOthers.cls ≠ "java/lang/invoke/MethodHandle" ∧ y_Share_spreadOthers.cls ≠ "java/lang/invoke/VarHandle" ∧ (parseMethodDescriptor y_Share_spreadOthers.desc).map (fun d => d.parameters.length) = some 1 := by decide +kernel
theorem lk_Share_66 : Cond.methodLink R_Share 66 y_Share_spreadOthers ∈ zT := zT_of (List.mem_of_getElem? (i := 265) (by decide +kernel)) rfl
theorem im_Share_spreadOthers : Cond.instanceMethod y_Share_spreadOthers ∈ zT := zT_of (List.mem_of_getElem? (i := 267) (by decide +kernel)) rfl
theorem se_Share_spreadOthers : Cond.selects R_Share y_Share_spreadOthers y_Share_spreadOthers ∈ zT := zT_of (List.mem_of_getElem? (i := 5) (by decide +kernel)) rfl
theorem cd_Share_startNumbers : Cond.code y_Share_startNumbers b_Share_startNumbers 3 none ∈ zT := zT_of (List.mem_of_getElem? (i := 272) (by decide +kernel)) rfl
theorem hd_Share_startNumbers : y_Share_startNumbers.cls ≠ "java/lang/invoke/MethodHandle" ∧ y_Share_startNumbers.cls ≠ "java/lang/invoke/VarHandle" ∧ (parseMethodDescriptor y_Share_startNumbers.desc).map (fun d => d.parameters.length) = some 0 := by decide +kernel
theorem lk_Share_70 : Cond.methodLink R_Share 70 y_Share_startNumbers ∈ zT := zT_of (List.mem_of_getElem? (i := 269) (by decide +kernel)) rfl
theorem im_Share_startNumbers : Cond.instanceMethod y_Share_startNumbers ∈ zT := zT_of (List.mem_of_getElem? (i := 271) (by decide +kernel)) rfl
theorem se_Share_startNumbers : Cond.selects R_Share y_Share_startNumbers y_Share_startNumbers ∈ zT := zT_of (List.mem_of_getElem? (i := 6) (by decide +kernel)) rfl
theorem cd_Share_numberCells : Cond.code y_Share_numberCells b_Share_numberCells 3 none ∈ zT := zT_of (List.mem_of_getElem? (i := 286) (by decide +kernel)) rfl
theorem hd_Share_numberCells : y_Share_numberCells.cls ≠ "java/lang/invoke/MethodHandle" ∧ y_Share_numberCells.cls ≠ "java/lang/invoke/VarHandle" ∧ (parseMethodDescriptor y_Share_numberCells.desc).map (fun d => d.parameters.length) = some 0 := by decide +kernel
theorem lk_Share_73 : Cond.methodLink R_Share 73 y_Share_numberCells ∈ zT := zT_of (List.mem_of_getElem? (i := 283) (by decide +kernel)) rfl
theorem im_Share_numberCells : Cond.instanceMethod y_Share_numberCells ∈ zT := zT_of (List.mem_of_getElem? (i := 285) (by decide +kernel)) rfl
theorem se_Share_numberCells : Cond.selects R_Share y_Share_numberCells y_Share_numberCells ∈ zT := zT_of (List.mem_of_getElem? (i := 7) (by decide +kernel)) rfl
theorem d_Share_become_0 : decode b_Share_become 0 = .ok (.aload_n 0, 1) := by decide +kernel
theorem d_Share_become_1 : decode b_Share_become 1 = .ok (.iload_n 1, 1) := by decide +kernel
theorem d_Share_become_2 : decode b_Share_become 2 = .ok (.putfield 33, 3) := by decide +kernel
theorem d_Share_become_5 : decode b_Share_become 5 = .ok (.iconst 0, 1) := by decide +kernel
theorem d_Share_become_6 : decode b_Share_become 6 = .ok (.istore_n 3, 1) := by decide +kernel
theorem d_Share_become_7 : decode b_Share_become 7 = .ok (.iload_n 3, 1) := by decide +kernel
theorem d_Share_become_8 : decode b_Share_become 8 = .ok (.sipush 256, 3) := by decide +kernel
theorem d_Share_become_11 : decode b_Share_become 11 = .ok (.if_icmp .ge 24, 3) := by decide +kernel
theorem d_Share_become_14 : decode b_Share_become 14 = .ok (.iload_n 3, 1) := by decide +kernel
theorem d_Share_become_15 : decode b_Share_become 15 = .ok (.aload_n 2, 1) := by decide +kernel
theorem d_Share_become_16 : decode b_Share_become 16 = .ok (.arraylength, 1) := by decide +kernel
theorem d_Share_become_17 : decode b_Share_become 17 = .ok (.if_icmp .ge 18, 3) := by decide +kernel
theorem d_Share_become_20 : decode b_Share_become 20 = .ok (.aload_n 0, 1) := by decide +kernel
theorem d_Share_become_21 : decode b_Share_become 21 = .ok (.getfield 9, 3) := by decide +kernel
theorem d_Share_become_24 : decode b_Share_become 24 = .ok (.iload_n 3, 1) := by decide +kernel
theorem d_Share_become_25 : decode b_Share_become 25 = .ok (.aload_n 2, 1) := by decide +kernel
theorem d_Share_become_26 : decode b_Share_become 26 = .ok (.iload_n 3, 1) := by decide +kernel
theorem d_Share_become_27 : decode b_Share_become 27 = .ok (.iaload, 1) := by decide +kernel
theorem d_Share_become_28 : decode b_Share_become 28 = .ok (.iastore, 1) := by decide +kernel
theorem d_Share_become_29 : decode b_Share_become 29 = .ok (.iinc 3 1, 3) := by decide +kernel
theorem d_Share_become_32 : decode b_Share_become 32 = .ok (.goto (-25), 3) := by decide +kernel
theorem d_Share_become_35 : decode b_Share_become 35 = .ok (.aload_n 0, 1) := by decide +kernel
theorem d_Share_become_36 : decode b_Share_become 36 = .ok (.aload_n 0, 1) := by decide +kernel
theorem d_Share_become_37 : decode b_Share_become 37 = .ok (.invokevirtual 63, 3) := by decide +kernel
theorem d_Share_become_40 : decode b_Share_become 40 = .ok (.invokevirtual 66, 3) := by decide +kernel
theorem d_Share_become_43 : decode b_Share_become 43 = .ok (.aload_n 0, 1) := by decide +kernel
theorem d_Share_become_44 : decode b_Share_become 44 = .ok (.invokevirtual 70, 3) := by decide +kernel
theorem d_Share_become_47 : decode b_Share_become 47 = .ok (.aload_n 0, 1) := by decide +kernel
theorem d_Share_become_48 : decode b_Share_become 48 = .ok (.invokevirtual 73, 3) := by decide +kernel
theorem d_Share_become_51 : decode b_Share_become 51 = .ok (.return_, 1) := by decide +kernel
abbrev rm_Share_become : Room := { frames := 4, cells := 0, slots := 0, locals := 88 }
set_option maxHeartbeats 4000000 in
set_option maxRecDepth 100000 in
theorem c_Share_become (l : Launch) (D : va_G) (cI cB cZ : ClassId) (sz : Nat) (h : Nat) (pP : Nat) (pS : Nat) (pB : Nat) (pA : Nat) (pC : Nat) (pF : Nat) (pN : Nat) (oz : Int) (o : Nat) (q : Nat) (gP : Nat → Int) (gS : Nat → Int) (gB : Nat → Int) (gA : Nat → Int) (gC : Nat → Int) (gF : Nat → Int) (gN : Nat → Int) (fp : Nat → Int) (ho : 5 ≤ o ∧ o ≤ 12) (hpr : ∀ k, k < 256 → -1 ≤ fp k ∧ fp k ≤ 65536) (hsum : cum fp 256 = 2 ^ o) : Met l y_Share_become (.code y_Share_become b_Share_become 4 none :: zT) rm_Share_become (zPc D classes (TY cI cB cZ) [(h, .inr (1, [.ref pP, .ref pS, .ref pB, .ref pA, .ref pC, .ref pF, .ref pN, .int (iZ oz)])), (pP, .inl (cI, 256, .inl (zA gP))), (pS, .inl (cI, 4096, .inl (zA gS))), (pB, .inl (cI, 4096, .inl (zA gB))), (pA, .inl (cI, 4096, .inl (zA gA))), (pC, .inl (cI, 4096, .inl (zA gC))), (pF, .inl (cI, 256, .inl (zA gF))), (pN, .inl (cI, 256, .inl (zA gN))), (q, .inl (cI, 256, .inl (zA fp)))] sz [.ref h, .int (iZ (o : Int)), .ref q]) (zFv (S := (Nat → Int) × (Nat → Int) × (Nat → Int) × (Nat → Int) × (Nat → Int) × (Nat → Int) × (Nat → Int)) D classes (fun u => (∀ k, k < 256 → u.1 k = fp k) ∧ u.2.1 = tbT u.1 o gS ∧ shOK u.1 u.2.1 u.2.2.1 u.2.2.2.1 u.2.2.2.2.1 u.2.2.2.2.2.1 o) (fun u => [(h, .inr (1, [.ref pP, .ref pS, .ref pB, .ref pA, .ref pC, .ref pF, .ref pN, .int (iZ (o : Int))])), (pP, .inl (cI, 256, .inl (zA u.1))), (pS, .inl (cI, 4096, .inl (zA u.2.1))), (pB, .inl (cI, 4096, .inl (zA u.2.2.1))), (pA, .inl (cI, 4096, .inl (zA u.2.2.2.1))), (pC, .inl (cI, 4096, .inl (zA u.2.2.2.2.1))), (pF, .inl (cI, 256, .inl (zA u.2.2.2.2.2.1))), (pN, .inl (cI, 256, .inl (zA u.2.2.2.2.2.2))), (q, .inl (cI, 256, .inl (zA fp)))]) (va_A [(h, .inr (1, [.ref pP, .ref pS, .ref pB, .ref pA, .ref pC, .ref pF, .ref pN, .int (iZ oz)])), (pP, .inl (cI, 256, .inl (zA gP))), (pS, .inl (cI, 4096, .inl (zA gS))), (pB, .inl (cI, 4096, .inl (zA gB))), (pA, .inl (cI, 4096, .inl (zA gA))), (pC, .inl (cI, 4096, .inl (zA gC))), (pF, .inl (cI, 256, .inl (zA gF))), (pN, .inl (cI, 256, .inl (zA gN))), (q, .inl (cI, 256, .inl (zA fp)))] sz)) 0 0 (va_A [(h, .inr (1, [.ref pP, .ref pS, .ref pB, .ref pA, .ref pC, .ref pF, .ref pN, .int (iZ oz)])), (pP, .inl (cI, 256, .inl (zA gP))), (pS, .inl (cI, 4096, .inl (zA gS))), (pB, .inl (cI, 4096, .inl (zA gB))), (pA, .inl (cI, 4096, .inl (zA gA))), (pC, .inl (cI, 4096, .inl (zA gC))), (pF, .inl (cI, 256, .inl (zA gF))), (pN, .inl (cI, 256, .inl (zA gN))), (q, .inl (cI, 256, .inl (zA fp)))] sz) := by
  refine z_ofv (by decide) (Nat.le_of_ble_eq_true rfl) rfl ?_
  intro p e s m args below meth c A Q E jmn jA jK jret H locs jP jD jS ls jl
  obtain ⟨jx, jb, jrt, jml, jown, jts, jlk⟩ := E
  have jown : s.vm.findClass R_Share = some m.cls := jown
  have hp12 := p2_le ho.2
  have hp0 := p2_pos o
  have jl : lv_has ls 4 [(0, .ref h), (1, .int (iZ (o : Int))), (2, .ref q)] := jl
  refine lv_aload_n jx jb d_Share_become_0 rfl (lv_at jl 0 rfl) ?_
  refine lv_iload_n jx jb d_Share_become_1 rfl (lv_at jl 1 rfl) ?_
  refine va_put (D := D) (ci := 1) (v := .int (iZ (o : Int))) (ty := .int) (C := R_Share) (T := F_Share) (N := 8) jx jb jts i_Share t_Share t_Share_ok n_Share jown jK.1 jP jD jS 0 rfl rfl 7 (by decide) (jts _ fl_Share_33) (fun _ h9 => h9) rfl (by decide +kernel) rfl rfl (Nat.le_of_ble_eq_true rfl) d_Share_become_2 (fun H locs jP jD jS => ?_)
  have jP : va_P D classes [(h, .inr (1, [.ref pP, .ref pS, .ref pB, .ref pA, .ref pC, .ref pF, .ref pN, .int (iZ (o : Int))])), (pP, .inl (cI, 256, .inl (zA gP))), (pS, .inl (cI, 4096, .inl (zA gS))), (pB, .inl (cI, 4096, .inl (zA gB))), (pA, .inl (cI, 4096, .inl (zA gA))), (pC, .inl (cI, 4096, .inl (zA gC))), (pF, .inl (cI, 256, .inl (zA gF))), (pN, .inl (cI, 256, .inl (zA gN))), (q, .inl (cI, 256, .inl (zA fp)))] H := jP
  have jD : va_D A [(h, .inr (1, [.ref pP, .ref pS, .ref pB, .ref pA, .ref pC, .ref pF, .ref pN, .int (iZ (o : Int))])), (pP, .inl (cI, 256, .inl (zA gP))), (pS, .inl (cI, 4096, .inl (zA gS))), (pB, .inl (cI, 4096, .inl (zA gB))), (pA, .inl (cI, 4096, .inl (zA gA))), (pC, .inl (cI, 4096, .inl (zA gC))), (pF, .inl (cI, 256, .inl (zA gF))), (pN, .inl (cI, 256, .inl (zA gN))), (q, .inl (cI, 256, .inl (zA fp)))] := jD
  refine lv_iconst (v := iZ 0) jx jb d_Share_become_5 rfl ?_
  refine lv_istore_n (lv' := [(3, .int (iZ 0)), (0, .ref h), (1, .int (iZ (o : Int))), (2, .ref q)]) jx jb d_Share_become_6 rfl jl (by decide) rfl (fun ls jl => ?_)
  have hloop7 : ∀ (nF : Nat) (i : Nat) (g2 : Nat → Int), 256 - i < nF → (i ≤ 256) → (∀ k, k < i → g2 k = fp k) → ∀ (H : Heap) (locs : List Loc), va_P D classes [(h, .inr (1, [.ref pP, .ref pS, .ref pB, .ref pA, .ref pC, .ref pF, .ref pN, .int (iZ (o : Int))])), (pP, .inl (cI, 256, .inl (zA g2))), (pS, .inl (cI, 4096, .inl (zA gS))), (pB, .inl (cI, 4096, .inl (zA gB))), (pA, .inl (cI, 4096, .inl (zA gA))), (pC, .inl (cI, 4096, .inl (zA gC))), (pF, .inl (cI, 256, .inl (zA gF))), (pN, .inl (cI, 256, .inl (zA gN))), (q, .inl (cI, 256, .inl (zA fp)))] H → va_D A [(h, .inr (1, [.ref pP, .ref pS, .ref pB, .ref pA, .ref pC, .ref pF, .ref pN, .int (iZ (o : Int))])), (pP, .inl (cI, 256, .inl (zA g2))), (pS, .inl (cI, 4096, .inl (zA gS))), (pB, .inl (cI, 4096, .inl (zA gB))), (pA, .inl (cI, 4096, .inl (zA gA))), (pC, .inl (cI, 4096, .inl (zA gC))), (pF, .inl (cI, 256, .inl (zA gF))), (pN, .inl (cI, 256, .inl (zA gN))), (q, .inl (cI, 256, .inl (zA fp)))] → va_S A s.heap H locs → ∀ ls : Array Slot, lv_has ls 4 [(0, .ref h), (2, .ref q), (3, .int (iZ (i : Int)))] → W p l e rm_Share_become s m args below meth c H locs 0 0 Q (F0 m 7 ls []) := by
    intro nF
    induction nF with
    | zero => intro i g2 hm; exact absurd hm (Nat.not_lt_zero _)
    | succ nF ih7 =>
      intro i g2 hm hi hg H locs jP jD jS ls jl
      refine lv_iload_n jx jb d_Share_become_7 rfl (lv_at jl 2 rfl) ?_
      refine lv_sipush (v := iZ 256) jx jb d_Share_become_8 (by decide) ?_
      refine z_icmp_ge (tgt := 35) jx jb d_Share_become_11 (by decide) ⟨⟨by omega, by omega⟩, ⟨by decide, by decide⟩⟩ (fun hc11 => ?_) (fun hc11 => ?_)
      ·
        have hg2 : ∀ k, k < 256 → g2 k = fp k := fun k hk => hg k (by omega)
        have hpr2 : ∀ k, k < 256 → -1 ≤ g2 k ∧ g2 k ≤ 65536 := fun k hk => by rw [hg2 k hk]; exact hpr k hk
        have hsm2 : cum g2 256 = 2 ^ o := by rw [cum_congr (fun k hk => hg2 k hk)]; exact hsum
        refine lv_aload_n jx jb d_Share_become_35 rfl (lv_at jl 0 rfl) ?_
        refine lv_aload_n jx jb d_Share_become_36 rfl (lv_at jl 0 rfl) ?_
        refine z_backi (wr := [(pB, .inl (cI, 4096, .inl (zA gB))), (pA, .inl (cI, 4096, .inl (zA gA))), (pC, .inl (cI, 4096, .inl (zA gC))), (pF, .inl (cI, 256, .inl (zA gF))), (pN, .inl (cI, 256, .inl (zA gN))), (q, .inl (cI, 256, .inl (zA fp)))]) jP jD jS jA [0, 1, 2] [3, 4, 5, 6, 7, 8] rfl rfl (by decide) (by decide) (va_runV (As := []) (rest := [.ref h]) ⟨jx, jb, jml, jown, jts⟩ (c_Share_spreadSingles l D cI cB cZ H.size h pP pS pB pA pC pF pN o g2 gS (ho) (hpr2) (hsm2)) (zc_V 0 jts cd_Share_spreadSingles lk_Share_63 im_Share_spreadSingles se_Share_spreadSingles in_Share hd_Share_spreadSingles ⟨Nat.le_of_ble_eq_true rfl, Nat.le_of_ble_eq_true rfl⟩ rfl rfl) (z_preV jK jP jD [0, 1, 2] (by decide) rfl rfl rfl rfl) rfl rfl jl.1 rfl (lv_room (Nat.le_of_ble_eq_true rfl)) d_Share_become_37 ⟨Nat.le_of_ble_eq_true rfl, Nat.le_of_ble_eq_true rfl⟩) (fun z37 u37 H locs hz37 jP jD jS => ?_)
        obtain ⟨gS1_37, rfl⟩ : ∃ z, z = u37 := ⟨_, rfl⟩
        have jP : va_P D classes [(h, .inr (1, [.ref pP, .ref pS, .ref pB, .ref pA, .ref pC, .ref pF, .ref pN, .int (iZ (o : Int))])), (pP, .inl (cI, 256, .inl (zA g2))), (pS, .inl (cI, 4096, .inl (zA gS1_37))), (pB, .inl (cI, 4096, .inl (zA gB))), (pA, .inl (cI, 4096, .inl (zA gA))), (pC, .inl (cI, 4096, .inl (zA gC))), (pF, .inl (cI, 256, .inl (zA gF))), (pN, .inl (cI, 256, .inl (zA gN))), (q, .inl (cI, 256, .inl (zA fp)))] H := jP.sub [6, 7, 8, 0, 1, 2, 3, 4, 5] rfl
        have jD : va_D A [(h, .inr (1, [.ref pP, .ref pS, .ref pB, .ref pA, .ref pC, .ref pF, .ref pN, .int (iZ (o : Int))])), (pP, .inl (cI, 256, .inl (zA g2))), (pS, .inl (cI, 4096, .inl (zA gS1_37))), (pB, .inl (cI, 4096, .inl (zA gB))), (pA, .inl (cI, 4096, .inl (zA gA))), (pC, .inl (cI, 4096, .inl (zA gC))), (pF, .inl (cI, 256, .inl (zA gF))), (pN, .inl (cI, 256, .inl (zA gN))), (q, .inl (cI, 256, .inl (zA fp)))] := jD.sub [6, 7, 8, 0, 1, 2, 3, 4, 5] (by decide) rfl
        have hq37 := hz37
        have hte := tb_e (t := gS) hpr2 hsm2
        have hz1 : z37 = tbE g2 o gS := by unfold tbE; rw [hq37]
        have hgt : (sprd g2 o z37 gS1_37 (2 ^ o)).1 = tbT g2 o gS := by unfold tbT; rw [hq37]
        refine z_backv (wr := [(pB, .inl (cI, 4096, .inl (zA gB))), (pA, .inl (cI, 4096, .inl (zA gA))), (pC, .inl (cI, 4096, .inl (zA gC))), (pF, .inl (cI, 256, .inl (zA gF))), (pN, .inl (cI, 256, .inl (zA gN))), (q, .inl (cI, 256, .inl (zA fp)))]) jP jD jS jA [0, 1, 2] [3, 4, 5, 6, 7, 8] rfl rfl (by decide) (by decide) (va_runV (As := [.int (iZ z37)]) (rest := []) ⟨jx, jb, jml, jown, jts⟩ (c_Share_spreadOthers l D cI cB cZ H.size h pP pS pB pA pC pF pN o g2 gS1_37 z37 (ho) (hpr2) (by omega)) (zc_V 1 jts cd_Share_spreadOthers lk_Share_66 im_Share_spreadOthers se_Share_spreadOthers in_Share hd_Share_spreadOthers ⟨Nat.le_of_ble_eq_true rfl, Nat.le_of_ble_eq_true rfl⟩ rfl rfl) (z_preV jK jP jD [0, 1, 2] (by decide) rfl rfl rfl rfl) rfl rfl jl.1 rfl (lv_room (Nat.le_of_ble_eq_true rfl)) d_Share_become_40 ⟨Nat.le_of_ble_eq_true rfl, Nat.le_of_ble_eq_true rfl⟩) (fun u40 H locs hu40 jP jD jS => ?_)
        obtain ⟨gS1_40, rfl⟩ : ∃ z, z = u40 := ⟨_, rfl⟩
        have jP : va_P D classes [(h, .inr (1, [.ref pP, .ref pS, .ref pB, .ref pA, .ref pC, .ref pF, .ref pN, .int (iZ (o : Int))])), (pP, .inl (cI, 256, .inl (zA g2))), (pS, .inl (cI, 4096, .inl (zA gS1_40))), (pB, .inl (cI, 4096, .inl (zA gB))), (pA, .inl (cI, 4096, .inl (zA gA))), (pC, .inl (cI, 4096, .inl (zA gC))), (pF, .inl (cI, 256, .inl (zA gF))), (pN, .inl (cI, 256, .inl (zA gN))), (q, .inl (cI, 256, .inl (zA fp)))] H := jP.sub [6, 7, 8, 0, 1, 2, 3, 4, 5] rfl
        have jD : va_D A [(h, .inr (1, [.ref pP, .ref pS, .ref pB, .ref pA, .ref pC, .ref pF, .ref pN, .int (iZ (o : Int))])), (pP, .inl (cI, 256, .inl (zA g2))), (pS, .inl (cI, 4096, .inl (zA gS1_40))), (pB, .inl (cI, 4096, .inl (zA gB))), (pA, .inl (cI, 4096, .inl (zA gA))), (pC, .inl (cI, 4096, .inl (zA gC))), (pF, .inl (cI, 256, .inl (zA gF))), (pN, .inl (cI, 256, .inl (zA gN))), (q, .inl (cI, 256, .inl (zA fp)))] := jD.sub [6, 7, 8, 0, 1, 2, 3, 4, 5] (by decide) rfl
        have hS40 : gS1_40 = tbT g2 o gS := hu40.trans hgt
        refine lv_aload_n jx jb d_Share_become_43 rfl (lv_at jl 0 rfl) ?_
        refine z_backv (wr := [(pS, .inl (cI, 4096, .inl (zA gS1_40))), (pB, .inl (cI, 4096, .inl (zA gB))), (pA, .inl (cI, 4096, .inl (zA gA))), (pC, .inl (cI, 4096, .inl (zA gC))), (q, .inl (cI, 256, .inl (zA fp)))]) jP jD jS jA [0, 1, 6, 7] [2, 3, 4, 5, 8] rfl rfl (by decide) (by decide) (va_runV (As := []) (rest := []) ⟨jx, jb, jml, jown, jts⟩ (c_Share_startNumbers l D cI cB cZ H.size h pP pS pB pA pC pF pN o g2 gF gN (hpr2)) (zc_V 0 jts cd_Share_startNumbers lk_Share_70 im_Share_startNumbers se_Share_startNumbers in_Share hd_Share_startNumbers ⟨Nat.le_of_ble_eq_true rfl, Nat.le_of_ble_eq_true rfl⟩ rfl rfl) (z_preV jK jP jD [0, 1, 6, 7] (by decide) rfl rfl rfl rfl) rfl rfl jl.1 rfl (lv_room (Nat.le_of_ble_eq_true rfl)) d_Share_become_44 ⟨Nat.le_of_ble_eq_true rfl, Nat.le_of_ble_eq_true rfl⟩) (fun u44 H locs hu44 jP jD jS => ?_)
        obtain ⟨gF1_44, gN1_44⟩ := u44
        have jP : va_P D classes [(h, .inr (1, [.ref pP, .ref pS, .ref pB, .ref pA, .ref pC, .ref pF, .ref pN, .int (iZ (o : Int))])), (pP, .inl (cI, 256, .inl (zA g2))), (pS, .inl (cI, 4096, .inl (zA gS1_40))), (pB, .inl (cI, 4096, .inl (zA gB))), (pA, .inl (cI, 4096, .inl (zA gA))), (pC, .inl (cI, 4096, .inl (zA gC))), (pF, .inl (cI, 256, .inl (zA gF1_44))), (pN, .inl (cI, 256, .inl (zA gN1_44))), (q, .inl (cI, 256, .inl (zA fp)))] H := jP.sub [5, 6, 0, 1, 2, 3, 7, 8, 4] rfl
        have jD : va_D A [(h, .inr (1, [.ref pP, .ref pS, .ref pB, .ref pA, .ref pC, .ref pF, .ref pN, .int (iZ (o : Int))])), (pP, .inl (cI, 256, .inl (zA g2))), (pS, .inl (cI, 4096, .inl (zA gS1_40))), (pB, .inl (cI, 4096, .inl (zA gB))), (pA, .inl (cI, 4096, .inl (zA gA))), (pC, .inl (cI, 4096, .inl (zA gC))), (pF, .inl (cI, 256, .inl (zA gF1_44))), (pN, .inl (cI, 256, .inl (zA gN1_44))), (q, .inl (cI, 256, .inl (zA fp)))] := jD.sub [5, 6, 0, 1, 2, 3, 7, 8, 4] (by decide) rfl
        obtain ⟨hF44, hN44⟩ := hu44
        refine lv_aload_n jx jb d_Share_become_47 rfl (lv_at jl 0 rfl) ?_
        refine z_backv (wr := [(q, .inl (cI, 256, .inl (zA fp)))]) jP jD jS jA [0, 1, 2, 3, 4, 5, 6, 7] [8] rfl rfl (by decide) (by decide) (va_runV (As := []) (rest := []) ⟨jx, jb, jml, jown, jts⟩ (c_Share_numberCells l D cI cB cZ H.size h pP pS pB pA pC pF pN o g2 gS1_40 gB gA gC gF1_44 gN1_44 (ho) (hpr2) (hsm2) (fun k hk => by rw [hS40]; exact tb_rng ho hpr2 hsm2 hk) (fun v hv => by rw [hS40]; exact Int.le_of_eq (tb_cnt ho hpr2 hsm2 hv)) (hF44) (hN44)) (zc_V 0 jts cd_Share_numberCells lk_Share_73 im_Share_numberCells se_Share_numberCells in_Share hd_Share_numberCells ⟨Nat.le_of_ble_eq_true rfl, Nat.le_of_ble_eq_true rfl⟩ rfl rfl) (z_preV jK jP jD [0, 1, 2, 3, 4, 5, 6, 7] (by decide) rfl rfl rfl rfl) rfl rfl jl.1 rfl (lv_room (Nat.le_of_ble_eq_true rfl)) d_Share_become_48 ⟨Nat.le_of_ble_eq_true rfl, Nat.le_of_ble_eq_true rfl⟩) (fun u48 H locs hu48 jP jD jS => ?_)
        obtain ⟨gB1_48, gA1_48, gC1_48, gN1_48⟩ := u48
        have jP : va_P D classes [(h, .inr (1, [.ref pP, .ref pS, .ref pB, .ref pA, .ref pC, .ref pF, .ref pN, .int (iZ (o : Int))])), (pP, .inl (cI, 256, .inl (zA g2))), (pS, .inl (cI, 4096, .inl (zA gS1_40))), (pB, .inl (cI, 4096, .inl (zA gB1_48))), (pA, .inl (cI, 4096, .inl (zA gA1_48))), (pC, .inl (cI, 4096, .inl (zA gC1_48))), (pF, .inl (cI, 256, .inl (zA gF1_44))), (pN, .inl (cI, 256, .inl (zA gN1_48))), (q, .inl (cI, 256, .inl (zA fp)))] H := jP.sub [1, 2, 3, 4, 5, 6, 7, 8, 0] rfl
        have jD : va_D A [(h, .inr (1, [.ref pP, .ref pS, .ref pB, .ref pA, .ref pC, .ref pF, .ref pN, .int (iZ (o : Int))])), (pP, .inl (cI, 256, .inl (zA g2))), (pS, .inl (cI, 4096, .inl (zA gS1_40))), (pB, .inl (cI, 4096, .inl (zA gB1_48))), (pA, .inl (cI, 4096, .inl (zA gA1_48))), (pC, .inl (cI, 4096, .inl (zA gC1_48))), (pF, .inl (cI, 256, .inl (zA gF1_44))), (pN, .inl (cI, 256, .inl (zA gN1_48))), (q, .inl (cI, 256, .inl (zA fp)))] := jD.sub [1, 2, 3, 4, 5, 6, 7, 8, 0] (by decide) rfl
        exact jret _ _ (g2, gS1_40, gB1_48, gA1_48, gC1_48, gF1_44, gN1_48) _ _ (⟨hg2, hS40, hu48, hF44, fun v hv => by rw [hS40]; exact tb_cnt ho hpr2 hsm2 hv, fun k hk => by rw [hS40]; exact tb_rng ho hpr2 hsm2 hk⟩) (jP.sub [0, 1, 2, 3, 4, 5, 6, 7, 8] rfl) (jD.sub [0, 1, 2, 3, 4, 5, 6, 7, 8] (by decide) rfl) jS d_Share_become_51
      ·
        refine lv_iload_n jx jb d_Share_become_14 rfl (lv_at jl 2 rfl) ?_
        refine lv_aload_n jx jb d_Share_become_15 rfl (lv_at jl 1 rfl) ?_
        refine va_alen (v := iZ 256) jx jb jK.1 jP 8 0 rfl rfl rfl d_Share_become_16 ?_
        refine z_icmp_ge (tgt := 35) jx jb d_Share_become_17 (by decide) ⟨⟨by omega, by omega⟩, ⟨by decide, by decide⟩⟩ (fun hc17 => ?_) (fun hc17 => ?_)
        ·
          exfalso; omega
        ·
          refine lv_aload_n jx jb d_Share_become_20 rfl (lv_at jl 0 rfl) ?_
          refine va_get (D := D) (ci := 1) (v := .ref pP) (C := R_Share) (T := F_Share) (N := 8) jx jb jts i_Share jown jK.1 jP 0 rfl rfl 0 (by decide) (jts _ fl_Share_9) (fun _ h9 => h9) rfl d_Share_become_21 ?_
          refine lv_iload_n jx jb d_Share_become_24 rfl (lv_at jl 2 rfl) ?_
          refine lv_aload_n jx jb d_Share_become_25 rfl (lv_at jl 1 rfl) ?_
          refine lv_iload_n jx jb d_Share_become_26 rfl (lv_at jl 2 rfl) ?_
          refine z_iald jx jb jK.1 jP 8 0 rfl rfl i (by omega) d_Share_become_27 ?_
          refine z_iast jx jb jK.1 jP jD jS 1 0 rfl rfl i (by omega) d_Share_become_28 (fun H locs jP jD jS => ?_)
          have jP : va_P D classes [(h, .inr (1, [.ref pP, .ref pS, .ref pB, .ref pA, .ref pC, .ref pF, .ref pN, .int (iZ (o : Int))])), (pP, .inl (cI, 256, .inl (zA (zu g2 i (fp i))))), (pS, .inl (cI, 4096, .inl (zA gS))), (pB, .inl (cI, 4096, .inl (zA gB))), (pA, .inl (cI, 4096, .inl (zA gA))), (pC, .inl (cI, 4096, .inl (zA gC))), (pF, .inl (cI, 256, .inl (zA gF))), (pN, .inl (cI, 256, .inl (zA gN))), (q, .inl (cI, 256, .inl (zA fp)))] H := jP
          have jD : va_D A [(h, .inr (1, [.ref pP, .ref pS, .ref pB, .ref pA, .ref pC, .ref pF, .ref pN, .int (iZ (o : Int))])), (pP, .inl (cI, 256, .inl (zA (zu g2 i (fp i))))), (pS, .inl (cI, 4096, .inl (zA gS))), (pB, .inl (cI, 4096, .inl (zA gB))), (pA, .inl (cI, 4096, .inl (zA gA))), (pC, .inl (cI, 4096, .inl (zA gC))), (pF, .inl (cI, 256, .inl (zA gF))), (pN, .inl (cI, 256, .inl (zA gN))), (q, .inl (cI, 256, .inl (zA fp)))] := jD
          refine lv_iinc (v := iZ ((i : Int) + 1)) (lv' := [(3, .int (iZ ((i : Int) + 1))), (0, .ref h), (2, .ref q)]) jx jb d_Share_become_29 jl (k := 2) rfl (iZ_add _ _) (by decide) rfl (fun ls jl => ?_)
          refine lv_goto (tgt := 7) jx jb d_Share_become_32 (by decide) ?_
          exact ih7 (i + 1) (zu g2 i (fp i)) (by omega) (by first | assumption | omega) (zu_all hg rfl) _ _ (jP.sub [0, 1, 2, 3, 4, 5, 6, 7, 8] rfl) (jD.sub [0, 1, 2, 3, 4, 5, 6, 7, 8] (by decide) rfl) jS _ (lv_sub jl [1, 2, 0] rfl)
  exact hloop7 ((256 - 0) + 1) 0 gP (Nat.lt_succ_self _) (by first | assumption | omega) (fun k h => absurd h (by omega)) _ _ (jP.sub [0, 1, 2, 3, 4, 5, 6, 7, 8] rfl) (jD.sub [0, 1, 2, 3, 4, 5, 6, 7, 8] (by decide) rfl) jS _ (lv_sub jl [1, 3, 0] rfl)
