theorem cd_SC_isOrder : Cond.code y_SC_isOrder b_SC_isOrder 1 (some .boolean) ∈ zT := zT_of (List.mem_of_getElem? (i := 221) (by decide +kernel)) rfl
theorem hd_SC_isOrder : y_SC_isOrder.cls ≠ "java/lang/invoke/MethodHandle" ∧ y_SC_isOrder.cls ≠ "java/lang/invoke/VarHandle" ∧ (parseMethodDescriptor y_SC_isOrder.desc).map (fun d => d.parameters.length) = some 1 := by decide +kernel
theorem lk_SC_77 : Cond.methodLink R_SC 77 y_SC_isOrder ∈ zT := zT_of (List.mem_of_getElem? (i := 219) (by decide +kernel)) rfl
theorem st_SC_isOrder : Cond.static y_SC_isOrder ∈ zT := zT_of (List.mem_of_getElem? (i := 220) (by decide +kernel)) rfl
theorem cd_Share_become : Cond.code y_Share_become b_Share_become 4 none ∈ zT := zT_of (List.mem_of_getElem? (i := 248) (by decide +kernel)) rfl
theorem hd_Share_become : y_Share_become.cls ≠ "java/lang/invoke/MethodHandle" ∧ y_Share_become.cls ≠ "java/lang/invoke/VarHandle" ∧ (parseMethodDescriptor y_Share_become.desc).map (fun d => d.parameters.length) = some 2 := by decide +kernel
theorem lk_SC_84 : Cond.methodLink R_SC 84 y_Share_become ∈ zT := zT_of (List.mem_of_getElem? (i := 245) (by decide +kernel)) rfl
theorem im_Share_become : Cond.instanceMethod y_Share_become ∈ zT := zT_of (List.mem_of_getElem? (i := 246) (by decide +kernel)) rfl
theorem se_Share_become : Cond.selects R_Share y_Share_become y_Share_become ∈ zT := zT_of (List.mem_of_getElem? (i := 247) (by decide +kernel)) rfl
theorem lk_SC_88 : Cond.methodLink R_SC 88 y_SC_weight ∈ zT := zT_of (List.mem_of_getElem? (i := 302) (by decide +kernel)) rfl
theorem d_SC_just_0 : decode b_SC_just 0 = .ok (.iload_n 1, 1) := by decide +kernel
theorem d_SC_just_1 : decode b_SC_just 1 = .ok (.invokestatic 77, 3) := by decide +kernel
theorem d_SC_just_4 : decode b_SC_just 4 = .ok (.ifCond .ne 5, 3) := by decide +kernel
theorem d_SC_just_7 : decode b_SC_just 7 = .ok (.iconst 0, 1) := by decide +kernel
theorem d_SC_just_8 : decode b_SC_just 8 = .ok (.ireturn, 1) := by decide +kernel
theorem d_SC_just_9 : decode b_SC_just 9 = .ok (.iconst 0, 1) := by decide +kernel
theorem d_SC_just_10 : decode b_SC_just 10 = .ok (.istore_n 2, 1) := by decide +kernel
theorem d_SC_just_11 : decode b_SC_just 11 = .ok (.iconst 0, 1) := by decide +kernel
theorem d_SC_just_12 : decode b_SC_just 12 = .ok (.istore_n 3, 1) := by decide +kernel
theorem d_SC_just_13 : decode b_SC_just 13 = .ok (.iload_n 3, 1) := by decide +kernel
theorem d_SC_just_14 : decode b_SC_just 14 = .ok (.sipush 256, 3) := by decide +kernel
theorem d_SC_just_17 : decode b_SC_just 17 = .ok (.if_icmp .ge 48, 3) := by decide +kernel
theorem d_SC_just_20 : decode b_SC_just 20 = .ok (.aload_n 0, 1) := by decide +kernel
theorem d_SC_just_21 : decode b_SC_just 21 = .ok (.getfield 13, 3) := by decide +kernel
theorem d_SC_just_24 : decode b_SC_just 24 = .ok (.iload_n 3, 1) := by decide +kernel
theorem d_SC_just_25 : decode b_SC_just 25 = .ok (.aload_n 0, 1) := by decide +kernel
theorem d_SC_just_26 : decode b_SC_just 26 = .ok (.getfield 9, 3) := by decide +kernel
theorem d_SC_just_29 : decode b_SC_just 29 = .ok (.iload_n 3, 1) := by decide +kernel
theorem d_SC_just_30 : decode b_SC_just 30 = .ok (.iaload, 1) := by decide +kernel
theorem d_SC_just_31 : decode b_SC_just 31 = .ok (.ldc 72, 2) := by decide +kernel
theorem d_SC_just_33 : decode b_SC_just 33 = .ok (.if_icmp .ne 7, 3) := by decide +kernel
theorem d_SC_just_36 : decode b_SC_just 36 = .ok (.iconst (-1), 1) := by decide +kernel
theorem d_SC_just_37 : decode b_SC_just 37 = .ok (.goto 9, 3) := by decide +kernel
theorem d_SC_just_40 : decode b_SC_just 40 = .ok (.aload_n 0, 1) := by decide +kernel
theorem d_SC_just_41 : decode b_SC_just 41 = .ok (.getfield 9, 3) := by decide +kernel
theorem d_SC_just_44 : decode b_SC_just 44 = .ok (.iload_n 3, 1) := by decide +kernel
theorem d_SC_just_45 : decode b_SC_just 45 = .ok (.iaload, 1) := by decide +kernel
theorem d_SC_just_46 : decode b_SC_just 46 = .ok (.iastore, 1) := by decide +kernel
theorem d_SC_just_47 : decode b_SC_just 47 = .ok (.iload_n 2, 1) := by decide +kernel
theorem d_SC_just_48 : decode b_SC_just 48 = .ok (.aload_n 0, 1) := by decide +kernel
theorem d_SC_just_49 : decode b_SC_just 49 = .ok (.getfield 13, 3) := by decide +kernel
theorem d_SC_just_52 : decode b_SC_just 52 = .ok (.iload_n 3, 1) := by decide +kernel
theorem d_SC_just_53 : decode b_SC_just 53 = .ok (.iaload, 1) := by decide +kernel
theorem d_SC_just_54 : decode b_SC_just 54 = .ok (.invokestatic 88, 3) := by decide +kernel
theorem d_SC_just_57 : decode b_SC_just 57 = .ok (.iadd, 1) := by decide +kernel
theorem d_SC_just_58 : decode b_SC_just 58 = .ok (.istore_n 2, 1) := by decide +kernel
theorem d_SC_just_59 : decode b_SC_just 59 = .ok (.iinc 3 1, 3) := by decide +kernel
theorem d_SC_just_62 : decode b_SC_just 62 = .ok (.goto (-49), 3) := by decide +kernel
theorem d_SC_just_65 : decode b_SC_just 65 = .ok (.iload_n 2, 1) := by decide +kernel
theorem d_SC_just_66 : decode b_SC_just 66 = .ok (.iconst 1, 1) := by decide +kernel
theorem d_SC_just_67 : decode b_SC_just 67 = .ok (.iload_n 1, 1) := by decide +kernel
theorem d_SC_just_68 : decode b_SC_just 68 = .ok (.ishl, 1) := by decide +kernel
theorem d_SC_just_69 : decode b_SC_just 69 = .ok (.if_icmp .eq 5, 3) := by decide +kernel
theorem d_SC_just_72 : decode b_SC_just 72 = .ok (.iconst 0, 1) := by decide +kernel
theorem d_SC_just_73 : decode b_SC_just 73 = .ok (.ireturn, 1) := by decide +kernel
theorem d_SC_just_74 : decode b_SC_just 74 = .ok (.aload_n 0, 1) := by decide +kernel
theorem d_SC_just_75 : decode b_SC_just 75 = .ok (.getfield 26, 3) := by decide +kernel
theorem d_SC_just_78 : decode b_SC_just 78 = .ok (.iload_n 1, 1) := by decide +kernel
theorem d_SC_just_79 : decode b_SC_just 79 = .ok (.aload_n 0, 1) := by decide +kernel
theorem d_SC_just_80 : decode b_SC_just 80 = .ok (.getfield 13, 3) := by decide +kernel
theorem d_SC_just_83 : decode b_SC_just 83 = .ok (.invokevirtual 84, 3) := by decide +kernel
theorem d_SC_just_86 : decode b_SC_just 86 = .ok (.iconst 1, 1) := by decide +kernel
theorem d_SC_just_87 : decode b_SC_just 87 = .ok (.ireturn, 1) := by decide +kernel
abbrev rm_SC_just : Room := { frames := 5, cells := 0, slots := 0, locals := 111 }
set_option maxHeartbeats 4000000 in
set_option maxRecDepth 100000 in
theorem c_SC_just (l : Launch) (D : va_G) (cI cB cZ : ClassId) (sz : Nat) (g : Nat) (qc : Nat) (qp : Nat) (qi : Nat) (qs : Nat) (qr : Nat) (qo : Nat) (qx : Nat) (ps : Int) (pP : Nat) (pS : Nat) (pB : Nat) (pA : Nat) (pC : Nat) (pF : Nat) (pN : Nat) (o : Nat) (fc : Nat → Int) (fp : Nat → Int) (gP : Nat → Int) (gS : Nat → Int) (gB : Nat → Int) (gA : Nat → Int) (gC : Nat → Int) (gF : Nat → Int) (gN : Nat → Int) (x : Int) (hcr : ∀ k, k < 256 → 0 ≤ fc k ∧ fc k ≤ 65535) (hx1 : -2147483648 ≤ x ∧ x < 2147483648) : Met l y_SC_just (.code y_SC_just b_SC_just 4 (some .boolean) :: zT) rm_SC_just (zPc D classes (TY cI cB cZ) [(g, .inr (3, [.ref qc, .ref qp, .ref qi, .ref qs, .ref qr, .ref qo, .ref qx, .int (iZ ps)])), (qc, .inl (cI, 256, .inl (zA fc))), (qp, .inl (cI, 256, .inl (zA fp))), (qs, .inr (1, [.ref pP, .ref pS, .ref pB, .ref pA, .ref pC, .ref pF, .ref pN, .int (iZ (o : Int))])), (pP, .inl (cI, 256, .inl (zA gP))), (pS, .inl (cI, 4096, .inl (zA gS))), (pB, .inl (cI, 4096, .inl (zA gB))), (pA, .inl (cI, 4096, .inl (zA gA))), (pC, .inl (cI, 4096, .inl (zA gC))), (pF, .inl (cI, 256, .inl (zA gF))), (pN, .inl (cI, 256, .inl (zA gN)))] sz [.ref g, .int (iZ x)]) (zFi (S := Int × (Nat → Int) × (Nat → Int) × (Nat → Int) × (Nat → Int) × (Nat → Int) × (Nat → Int) × (Nat → Int) × (Nat → Int)) D classes (fun z u => (z = 1 ∧ jOK fc x ∧ u.1 = x ∧ (∀ k, k < 256 → u.2.2.1 k = jp fc k) ∧ u.2.2.2.1 = tbT u.2.2.1 x.toNat gS ∧ shOK u.2.2.1 u.2.2.2.1 u.2.2.2.2.1 u.2.2.2.2.2.1 u.2.2.2.2.2.2.1 u.2.2.2.2.2.2.2.1 x.toNat) ∨ (z = 0 ∧ ¬ jOK fc x ∧ u.1 = (o : Int) ∧ u.2.2.1 = gP ∧ u.2.2.2.1 = gS ∧ u.2.2.2.2.1 = gB ∧ u.2.2.2.2.2.1 = gA ∧ u.2.2.2.2.2.2.1 = gC ∧ u.2.2.2.2.2.2.2.1 = gF ∧ u.2.2.2.2.2.2.2.2 = gN)) (fun u => [(g, .inr (3, [.ref qc, .ref qp, .ref qi, .ref qs, .ref qr, .ref qo, .ref qx, .int (iZ ps)])), (qc, .inl (cI, 256, .inl (zA fc))), (qp, .inl (cI, 256, .inl (zA u.2.1))), (qs, .inr (1, [.ref pP, .ref pS, .ref pB, .ref pA, .ref pC, .ref pF, .ref pN, .int (iZ u.1)])), (pP, .inl (cI, 256, .inl (zA u.2.2.1))), (pS, .inl (cI, 4096, .inl (zA u.2.2.2.1))), (pB, .inl (cI, 4096, .inl (zA u.2.2.2.2.1))), (pA, .inl (cI, 4096, .inl (zA u.2.2.2.2.2.1))), (pC, .inl (cI, 4096, .inl (zA u.2.2.2.2.2.2.1))), (pF, .inl (cI, 256, .inl (zA u.2.2.2.2.2.2.2.1))), (pN, .inl (cI, 256, .inl (zA u.2.2.2.2.2.2.2.2)))]) (va_A [(g, .inr (3, [.ref qc, .ref qp, .ref qi, .ref qs, .ref qr, .ref qo, .ref qx, .int (iZ ps)])), (qc, .inl (cI, 256, .inl (zA fc))), (qp, .inl (cI, 256, .inl (zA fp))), (qs, .inr (1, [.ref pP, .ref pS, .ref pB, .ref pA, .ref pC, .ref pF, .ref pN, .int (iZ (o : Int))])), (pP, .inl (cI, 256, .inl (zA gP))), (pS, .inl (cI, 4096, .inl (zA gS))), (pB, .inl (cI, 4096, .inl (zA gB))), (pA, .inl (cI, 4096, .inl (zA gA))), (pC, .inl (cI, 4096, .inl (zA gC))), (pF, .inl (cI, 256, .inl (zA gF))), (pN, .inl (cI, 256, .inl (zA gN)))] sz)) 0 0 (va_A [(g, .inr (3, [.ref qc, .ref qp, .ref qi, .ref qs, .ref qr, .ref qo, .ref qx, .int (iZ ps)])), (qc, .inl (cI, 256, .inl (zA fc))), (qp, .inl (cI, 256, .inl (zA fp))), (qs, .inr (1, [.ref pP, .ref pS, .ref pB, .ref pA, .ref pC, .ref pF, .ref pN, .int (iZ (o : Int))])), (pP, .inl (cI, 256, .inl (zA gP))), (pS, .inl (cI, 4096, .inl (zA gS))), (pB, .inl (cI, 4096, .inl (zA gB))), (pA, .inl (cI, 4096, .inl (zA gA))), (pC, .inl (cI, 4096, .inl (zA gC))), (pF, .inl (cI, 256, .inl (zA gF))), (pN, .inl (cI, 256, .inl (zA gN)))] sz) := by
  refine z_ofi (by decide) (Nat.le_of_ble_eq_true rfl) (Or.inr rfl) ?_
  intro p e s m args below meth c A Q E jA jK jret H locs jP jD jS ls jl
  obtain ⟨jx, jb, jrt, jml, jown, jts, jlk⟩ := E
  have jown : s.vm.findClass R_SC = some m.cls := jown
  have jl : lv_has ls 4 [(0, .ref g), (1, .int (iZ x))] := jl
  refine lv_iload_n jx jb d_SC_just_0 rfl (lv_at jl 1 rfl) ?_
  refine z_backr (va_runS (As := [.int (iZ x)]) (rest := []) ⟨jx, jb, jml, jown, jts⟩ (c_isOrder l D cI cB cZ x (by first | assumption | omega)) (zc_S 1 jts cd_SC_isOrder lk_SC_77 st_SC_isOrder in_SC hd_SC_isOrder ⟨Nat.le_of_ble_eq_true rfl, Nat.le_of_ble_eq_true rfl⟩ rfl rfl) (z_preSR jK jP [] rfl) rfl rfl jl.1 rfl (lv_room (Nat.le_of_ble_eq_true rfl)) d_SC_just_1 ⟨Nat.le_of_ble_eq_true rfl, Nat.le_of_ble_eq_true rfl⟩) (fun z1 hz1 => ?_)
  rcases hz1 with ⟨rfl, hq1⟩ | ⟨rfl, hq1⟩
  ·
    refine z_if_ne (tgt := 9) jx jb d_SC_just_4 (by decide) ⟨by decide, by decide⟩ (fun hc4 => ?_) (fun hc4 => ?_)
    ·
      refine lv_iconst (v := iZ 0) jx jb d_SC_just_9 rfl ?_
      refine lv_istore_n (lv' := [(2, .int (iZ 0)), (0, .ref g), (1, .int (iZ x))]) jx jb d_SC_just_10 rfl jl (by decide) rfl (fun ls jl => ?_)
      refine lv_iconst (v := iZ 0) jx jb d_SC_just_11 rfl ?_
      refine lv_istore_n (lv' := [(3, .int (iZ 0)), (2, .int (iZ 0)), (0, .ref g), (1, .int (iZ x))]) jx jb d_SC_just_12 rfl jl (by decide) rfl (fun ls jl => ?_)
      have hloop13 : ∀ (nF : Nat) (i : Nat) (f2 : Nat → Int), 256 - i < nF → (i ≤ 256) → (∀ k, k < i → f2 k = jp fc k) → ∀ (H : Heap) (locs : List Loc), va_P D classes [(g, .inr (3, [.ref qc, .ref qp, .ref qi, .ref qs, .ref qr, .ref qo, .ref qx, .int (iZ ps)])), (qc, .inl (cI, 256, .inl (zA fc))), (qp, .inl (cI, 256, .inl (zA f2))), (qs, .inr (1, [.ref pP, .ref pS, .ref pB, .ref pA, .ref pC, .ref pF, .ref pN, .int (iZ (o : Int))])), (pP, .inl (cI, 256, .inl (zA gP))), (pS, .inl (cI, 4096, .inl (zA gS))), (pB, .inl (cI, 4096, .inl (zA gB))), (pA, .inl (cI, 4096, .inl (zA gA))), (pC, .inl (cI, 4096, .inl (zA gC))), (pF, .inl (cI, 256, .inl (zA gF))), (pN, .inl (cI, 256, .inl (zA gN)))] H → va_D A [(g, .inr (3, [.ref qc, .ref qp, .ref qi, .ref qs, .ref qr, .ref qo, .ref qx, .int (iZ ps)])), (qc, .inl (cI, 256, .inl (zA fc))), (qp, .inl (cI, 256, .inl (zA f2))), (qs, .inr (1, [.ref pP, .ref pS, .ref pB, .ref pA, .ref pC, .ref pF, .ref pN, .int (iZ (o : Int))])), (pP, .inl (cI, 256, .inl (zA gP))), (pS, .inl (cI, 4096, .inl (zA gS))), (pB, .inl (cI, 4096, .inl (zA gB))), (pA, .inl (cI, 4096, .inl (zA gA))), (pC, .inl (cI, 4096, .inl (zA gC))), (pF, .inl (cI, 256, .inl (zA gF))), (pN, .inl (cI, 256, .inl (zA gN)))] → va_S A s.heap H locs → ∀ ls : Array Slot, lv_has ls 4 [(0, .ref g), (1, .int (iZ x)), (2, .int (iZ (cum (jp fc) i))), (3, .int (iZ (i : Int)))] → W p l e rm_SC_just s m args below meth c H locs 0 0 Q (F0 m 13 ls []) := by
        intro nF
        induction nF with
        | zero => intro i f2 hm; exact absurd hm (Nat.not_lt_zero _)
        | succ nF ih13 =>
          intro i f2 hm hi hg H locs jP jD jS ls jl
          refine lv_iload_n jx jb d_SC_just_13 rfl (lv_at jl 3 rfl) ?_
          refine lv_sipush (v := iZ 256) jx jb d_SC_just_14 (by decide) ?_
          refine z_icmp_ge (tgt := 65) jx jb d_SC_just_17 (by decide) ⟨⟨by omega, by omega⟩, ⟨by decide, by decide⟩⟩ (fun hc17 => ?_) (fun hc17 => ?_)
          ·
            obtain rfl : 256 = i := by omega
            have hjr : ∀ k, k < 256 → -1 ≤ jp fc k ∧ jp fc k ≤ 65536 := fun k hk => jp_b (hcr k hk)
            have hcb := cum_hi (n := 256) hjr
            have hp12 := p2_le (show x.toNat ≤ 12 by omega)
            have hp0 := p2_pos x.toNat
            refine lv_iload_n jx jb d_SC_just_65 rfl (lv_at jl 2 rfl) ?_
            refine lv_iconst (v := iZ 1) jx jb d_SC_just_66 rfl ?_
            refine lv_iload_n jx jb d_SC_just_67 rfl (lv_at jl 1 rfl) ?_
            refine z_ishl jx jb d_SC_just_68 x.toNat (2 ^ x.toNat) (rfl) (by omega) ?_
            refine z_top (2 ^ x.toNat) (Int.one_mul _) ?_
            refine z_icmp_eq (tgt := 74) jx jb d_SC_just_69 (by decide) ⟨⟨by omega, by omega⟩, ⟨by omega, by omega⟩⟩ (fun hc69 => ?_) (fun hc69 => ?_)
            ·
              refine lv_aload_n jx jb d_SC_just_74 rfl (lv_at jl 0 rfl) ?_
              refine va_get (D := D) (ci := 3) (v := .ref qs) (C := R_SC) (T := F_SC) (N := 8) jx jb jts i_SC jown jK.1 jP 0 rfl rfl 3 (by decide) (jts _ fl_SC_26) (fun _ h9 => h9) rfl d_SC_just_75 ?_
              refine lv_iload_n jx jb d_SC_just_78 rfl (lv_at jl 1 rfl) ?_
              refine z_top ((x.toNat : Nat) : Int) (by omega) ?_
              refine lv_aload_n jx jb d_SC_just_79 rfl (lv_at jl 0 rfl) ?_
              refine va_get (D := D) (ci := 3) (v := .ref qp) (C := R_SC) (T := F_SC) (N := 8) jx jb jts i_SC jown jK.1 jP 0 rfl rfl 1 (by decide) (jts _ fl_SC_13) (fun _ h9 => h9) rfl d_SC_just_80 ?_
              refine z_backv (wr := [(g, .inr (3, [.ref qc, .ref qp, .ref qi, .ref qs, .ref qr, .ref qo, .ref qx, .int (iZ ps)])), (qc, .inl (cI, 256, .inl (zA fc)))]) jP jD jS jA [3, 4, 5, 6, 7, 8, 9, 10, 2] [0, 1] rfl rfl (by decide) (by decide) (va_runV (As := [.int (iZ ((x.toNat : Nat) : Int)), .ref qp]) (rest := []) ⟨jx, jb, jml, jown, jts⟩ (c_Share_become l D cI cB cZ H.size qs pP pS pB pA pC pF pN (o : Int) (x.toNat : Nat) qp gP gS gB gA gC gF gN f2 (by omega) (fun k hk => by rw [hg k hk]; exact hjr k hk) (by rw [cum_congr (fun k hk => hg k hk)]; exact hc69)) (zc_V 2 jts cd_Share_become lk_SC_84 im_Share_become se_Share_become in_Share hd_Share_become ⟨Nat.le_of_ble_eq_true rfl, Nat.le_of_ble_eq_true rfl⟩ rfl rfl) (z_preV jK jP jD [3, 4, 5, 6, 7, 8, 9, 10, 2] (by decide) rfl rfl rfl rfl) rfl rfl jl.1 rfl (lv_room (Nat.le_of_ble_eq_true rfl)) d_SC_just_83 ⟨Nat.le_of_ble_eq_true rfl, Nat.le_of_ble_eq_true rfl⟩) (fun u83 H locs hu83 jP jD jS => ?_)
              obtain ⟨gP1_83, gS1_83, gB1_83, gA1_83, gC1_83, gF1_83, gN1_83⟩ := u83
              have jP : va_P D classes [(g, .inr (3, [.ref qc, .ref qp, .ref qi, .ref qs, .ref qr, .ref qo, .ref qx, .int (iZ ps)])), (qc, .inl (cI, 256, .inl (zA fc))), (qp, .inl (cI, 256, .inl (zA f2))), (qs, .inr (1, [.ref pP, .ref pS, .ref pB, .ref pA, .ref pC, .ref pF, .ref pN, .int (iZ ((x.toNat : Nat) : Int))])), (pP, .inl (cI, 256, .inl (zA gP1_83))), (pS, .inl (cI, 4096, .inl (zA gS1_83))), (pB, .inl (cI, 4096, .inl (zA gB1_83))), (pA, .inl (cI, 4096, .inl (zA gA1_83))), (pC, .inl (cI, 4096, .inl (zA gC1_83))), (pF, .inl (cI, 256, .inl (zA gF1_83))), (pN, .inl (cI, 256, .inl (zA gN1_83)))] H := jP.sub [0, 1, 10, 2, 3, 4, 5, 6, 7, 8, 9] rfl
              have jD : va_D A [(g, .inr (3, [.ref qc, .ref qp, .ref qi, .ref qs, .ref qr, .ref qo, .ref qx, .int (iZ ps)])), (qc, .inl (cI, 256, .inl (zA fc))), (qp, .inl (cI, 256, .inl (zA f2))), (qs, .inr (1, [.ref pP, .ref pS, .ref pB, .ref pA, .ref pC, .ref pF, .ref pN, .int (iZ ((x.toNat : Nat) : Int))])), (pP, .inl (cI, 256, .inl (zA gP1_83))), (pS, .inl (cI, 4096, .inl (zA gS1_83))), (pB, .inl (cI, 4096, .inl (zA gB1_83))), (pA, .inl (cI, 4096, .inl (zA gA1_83))), (pC, .inl (cI, 4096, .inl (zA gC1_83))), (pF, .inl (cI, 256, .inl (zA gF1_83))), (pN, .inl (cI, 256, .inl (zA gN1_83)))] := jD.sub [0, 1, 10, 2, 3, 4, 5, 6, 7, 8, 9] (by decide) rfl
              obtain ⟨hu1, hu2, hu3⟩ := hu83
              refine lv_iconst (v := iZ 1) jx jb d_SC_just_86 rfl ?_
              exact jret _ _ _ (((x.toNat : Nat) : Int), f2, gP1_83, gS1_83, gB1_83, gA1_83, gC1_83, gF1_83, gN1_83) _ _ (Or.inr (Or.inr rfl)) (Or.inl ⟨rfl, ⟨by omega, by omega, hc69⟩, by omega, fun k hk => (hu1 k hk).trans (hg k hk), hu2, hu3⟩) (jP.sub [0, 1, 2, 3, 4, 5, 6, 7, 8, 9, 10] rfl) (jD.sub [0, 1, 2, 3, 4, 5, 6, 7, 8, 9, 10] (by decide) rfl) jS d_SC_just_87
            ·
              refine lv_iconst (v := iZ 0) jx jb d_SC_just_72 rfl ?_
              exact jret _ _ _ ((o : Int), f2, gP, gS, gB, gA, gC, gF, gN) _ _ (Or.inr (Or.inl rfl)) (Or.inr ⟨rfl, fun q => hc69 q.2.2, rfl, rfl, rfl, rfl, rfl, rfl, rfl, rfl⟩) (jP.sub [0, 1, 2, 3, 4, 5, 6, 7, 8, 9, 10] rfl) (jD.sub [0, 1, 2, 3, 4, 5, 6, 7, 8, 9, 10] (by decide) rfl) jS d_SC_just_73
          ·
            refine lv_aload_n jx jb d_SC_just_20 rfl (lv_at jl 0 rfl) ?_
            refine va_get (D := D) (ci := 3) (v := .ref qp) (C := R_SC) (T := F_SC) (N := 8) jx jb jts i_SC jown jK.1 jP 0 rfl rfl 1 (by decide) (jts _ fl_SC_13) (fun _ h9 => h9) rfl d_SC_just_21 ?_
            refine lv_iload_n jx jb d_SC_just_24 rfl (lv_at jl 3 rfl) ?_
            refine lv_aload_n jx jb d_SC_just_25 rfl (lv_at jl 0 rfl) ?_
            refine va_get (D := D) (ci := 3) (v := .ref qc) (C := R_SC) (T := F_SC) (N := 8) jx jb jts i_SC jown jK.1 jP 0 rfl rfl 0 (by decide) (jts _ fl_SC_9) (fun _ h9 => h9) rfl d_SC_just_26 ?_
            refine lv_iload_n jx jb d_SC_just_29 rfl (lv_at jl 3 rfl) ?_
            refine z_iald jx jb jK.1 jP 1 0 rfl rfl i (by omega) d_SC_just_30 ?_
            refine lv_ldc (v := iZ 65535) jx jb jown (jts _ cn_SC_72) d_SC_just_31 ?_
            have hci := hcr i (by omega)
            have hji := jp_b hci
            refine z_icmp_ne (tgt := 40) jx jb d_SC_just_33 (by decide) ⟨⟨by omega, by omega⟩, ⟨by decide, by decide⟩⟩ (fun hc33 => ?_) (fun hc33 => ?_)
            ·
              refine lv_aload_n jx jb d_SC_just_40 rfl (lv_at jl 0 rfl) ?_
              refine va_get (D := D) (ci := 3) (v := .ref qc) (C := R_SC) (T := F_SC) (N := 8) jx jb jts i_SC jown jK.1 jP 0 rfl rfl 0 (by decide) (jts _ fl_SC_9) (fun _ h9 => h9) rfl d_SC_just_41 ?_
              refine lv_iload_n jx jb d_SC_just_44 rfl (lv_at jl 3 rfl) ?_
              refine z_iald jx jb jK.1 jP 1 0 rfl rfl i (by omega) d_SC_just_45 ?_
              refine z_iast jx jb jK.1 jP jD jS 2 0 rfl rfl i (by omega) d_SC_just_46 (fun H locs jP jD jS => ?_)
              have jP : va_P D classes [(g, .inr (3, [.ref qc, .ref qp, .ref qi, .ref qs, .ref qr, .ref qo, .ref qx, .int (iZ ps)])), (qc, .inl (cI, 256, .inl (zA fc))), (qp, .inl (cI, 256, .inl (zA (zu f2 i (fc i))))), (qs, .inr (1, [.ref pP, .ref pS, .ref pB, .ref pA, .ref pC, .ref pF, .ref pN, .int (iZ (o : Int))])), (pP, .inl (cI, 256, .inl (zA gP))), (pS, .inl (cI, 4096, .inl (zA gS))), (pB, .inl (cI, 4096, .inl (zA gB))), (pA, .inl (cI, 4096, .inl (zA gA))), (pC, .inl (cI, 4096, .inl (zA gC))), (pF, .inl (cI, 256, .inl (zA gF))), (pN, .inl (cI, 256, .inl (zA gN)))] H := jP
              have jD : va_D A [(g, .inr (3, [.ref qc, .ref qp, .ref qi, .ref qs, .ref qr, .ref qo, .ref qx, .int (iZ ps)])), (qc, .inl (cI, 256, .inl (zA fc))), (qp, .inl (cI, 256, .inl (zA (zu f2 i (fc i))))), (qs, .inr (1, [.ref pP, .ref pS, .ref pB, .ref pA, .ref pC, .ref pF, .ref pN, .int (iZ (o : Int))])), (pP, .inl (cI, 256, .inl (zA gP))), (pS, .inl (cI, 4096, .inl (zA gS))), (pB, .inl (cI, 4096, .inl (zA gB))), (pA, .inl (cI, 4096, .inl (zA gA))), (pC, .inl (cI, 4096, .inl (zA gC))), (pF, .inl (cI, 256, .inl (zA gF))), (pN, .inl (cI, 256, .inl (zA gN)))] := jD
              refine lv_iload_n jx jb d_SC_just_47 rfl (lv_at jl 2 rfl) ?_
              refine lv_aload_n jx jb d_SC_just_48 rfl (lv_at jl 0 rfl) ?_
              refine va_get (D := D) (ci := 3) (v := .ref qp) (C := R_SC) (T := F_SC) (N := 8) jx jb jts i_SC jown jK.1 jP 0 rfl rfl 1 (by decide) (jts _ fl_SC_13) (fun _ h9 => h9) rfl d_SC_just_49 ?_
              refine lv_iload_n jx jb d_SC_just_52 rfl (lv_at jl 3 rfl) ?_
              refine z_iald jx jb jK.1 jP 2 0 rfl rfl i (by omega) d_SC_just_53 ?_
              refine z_top (jp fc i) (by first | (rw [zu_s]; exact (if_pos hc33).symm) | (rw [zu_s]; exact (if_neg hc33).symm)) ?_
              refine z_backe (va_runS (As := [.int (iZ (jp fc i))]) (rest := [.int (iZ (cum (jp fc) i))]) ⟨jx, jb, jml, jown, jts⟩ (c_weight l D cI cB cZ (jp fc i) (by first | assumption | omega)) (zc_S 1 jts cd_SC_weight lk_SC_88 st_SC_weight in_SC hd_SC_weight ⟨Nat.le_of_ble_eq_true rfl, Nat.le_of_ble_eq_true rfl⟩ rfl rfl) (z_preSR jK jP [] rfl) rfl rfl jl.1 rfl (lv_room (Nat.le_of_ble_eq_true rfl)) d_SC_just_54 ⟨Nat.le_of_ble_eq_true rfl, Nat.le_of_ble_eq_true rfl⟩) ?_
              refine z_iadd jx jb d_SC_just_57 ?_
              refine lv_istore_n (lv' := [(2, .int (iZ ((cum (jp fc) i) + (wgt (jp fc i))))), (0, .ref g), (1, .int (iZ x)), (3, .int (iZ (i : Int)))]) jx jb d_SC_just_58 rfl jl (by decide) rfl (fun ls jl => ?_)
              refine lv_iinc (v := iZ ((i : Int) + 1)) (lv' := [(3, .int (iZ ((i : Int) + 1))), (2, .int (iZ ((cum (jp fc) i) + (wgt (jp fc i))))), (0, .ref g), (1, .int (iZ x))]) jx jb d_SC_just_59 jl (k := 3) rfl (iZ_add _ _) (by decide) rfl (fun ls jl => ?_)
              refine lv_goto (tgt := 13) jx jb d_SC_just_62 (by decide) ?_
              exact ih13 (i + 1) (zu f2 i (fc i)) (by omega) (by first | assumption | omega) (by first | exact zu_all hg (if_pos hc33).symm | exact zu_all hg (if_neg hc33).symm) _ _ (jP.sub [0, 1, 2, 3, 4, 5, 6, 7, 8, 9, 10] rfl) (jD.sub [0, 1, 2, 3, 4, 5, 6, 7, 8, 9, 10] (by decide) rfl) jS _ (lv_sub jl [2, 3, 1, 0] rfl)
            ·
              refine lv_iconst (v := iZ (-1)) jx jb d_SC_just_36 rfl ?_
              refine lv_goto (tgt := 46) jx jb d_SC_just_37 (by decide) ?_
              refine z_iast jx jb jK.1 jP jD jS 2 0 rfl rfl i (by omega) d_SC_just_46 (fun H locs jP jD jS => ?_)
              have jP : va_P D classes [(g, .inr (3, [.ref qc, .ref qp, .ref qi, .ref qs, .ref qr, .ref qo, .ref qx, .int (iZ ps)])), (qc, .inl (cI, 256, .inl (zA fc))), (qp, .inl (cI, 256, .inl (zA (zu f2 i (-1))))), (qs, .inr (1, [.ref pP, .ref pS, .ref pB, .ref pA, .ref pC, .ref pF, .ref pN, .int (iZ (o : Int))])), (pP, .inl (cI, 256, .inl (zA gP))), (pS, .inl (cI, 4096, .inl (zA gS))), (pB, .inl (cI, 4096, .inl (zA gB))), (pA, .inl (cI, 4096, .inl (zA gA))), (pC, .inl (cI, 4096, .inl (zA gC))), (pF, .inl (cI, 256, .inl (zA gF))), (pN, .inl (cI, 256, .inl (zA gN)))] H := jP
              have jD : va_D A [(g, .inr (3, [.ref qc, .ref qp, .ref qi, .ref qs, .ref qr, .ref qo, .ref qx, .int (iZ ps)])), (qc, .inl (cI, 256, .inl (zA fc))), (qp, .inl (cI, 256, .inl (zA (zu f2 i (-1))))), (qs, .inr (1, [.ref pP, .ref pS, .ref pB, .ref pA, .ref pC, .ref pF, .ref pN, .int (iZ (o : Int))])), (pP, .inl (cI, 256, .inl (zA gP))), (pS, .inl (cI, 4096, .inl (zA gS))), (pB, .inl (cI, 4096, .inl (zA gB))), (pA, .inl (cI, 4096, .inl (zA gA))), (pC, .inl (cI, 4096, .inl (zA gC))), (pF, .inl (cI, 256, .inl (zA gF))), (pN, .inl (cI, 256, .inl (zA gN)))] := jD
              refine lv_iload_n jx jb d_SC_just_47 rfl (lv_at jl 2 rfl) ?_
              refine lv_aload_n jx jb d_SC_just_48 rfl (lv_at jl 0 rfl) ?_
              refine va_get (D := D) (ci := 3) (v := .ref qp) (C := R_SC) (T := F_SC) (N := 8) jx jb jts i_SC jown jK.1 jP 0 rfl rfl 1 (by decide) (jts _ fl_SC_13) (fun _ h9 => h9) rfl d_SC_just_49 ?_
              refine lv_iload_n jx jb d_SC_just_52 rfl (lv_at jl 3 rfl) ?_
              refine z_iald jx jb jK.1 jP 2 0 rfl rfl i (by omega) d_SC_just_53 ?_
              refine z_top (jp fc i) (by first | (rw [zu_s]; exact (if_pos hc33).symm) | (rw [zu_s]; exact (if_neg hc33).symm)) ?_
              refine z_backe (va_runS (As := [.int (iZ (jp fc i))]) (rest := [.int (iZ (cum (jp fc) i))]) ⟨jx, jb, jml, jown, jts⟩ (c_weight l D cI cB cZ (jp fc i) (by first | assumption | omega)) (zc_S 1 jts cd_SC_weight lk_SC_88 st_SC_weight in_SC hd_SC_weight ⟨Nat.le_of_ble_eq_true rfl, Nat.le_of_ble_eq_true rfl⟩ rfl rfl) (z_preSR jK jP [] rfl) rfl rfl jl.1 rfl (lv_room (Nat.le_of_ble_eq_true rfl)) d_SC_just_54 ⟨Nat.le_of_ble_eq_true rfl, Nat.le_of_ble_eq_true rfl⟩) ?_
              refine z_iadd jx jb d_SC_just_57 ?_
              refine lv_istore_n (lv' := [(2, .int (iZ ((cum (jp fc) i) + (wgt (jp fc i))))), (0, .ref g), (1, .int (iZ x)), (3, .int (iZ (i : Int)))]) jx jb d_SC_just_58 rfl jl (by decide) rfl (fun ls jl => ?_)
              refine lv_iinc (v := iZ ((i : Int) + 1)) (lv' := [(3, .int (iZ ((i : Int) + 1))), (2, .int (iZ ((cum (jp fc) i) + (wgt (jp fc i))))), (0, .ref g), (1, .int (iZ x))]) jx jb d_SC_just_59 jl (k := 3) rfl (iZ_add _ _) (by decide) rfl (fun ls jl => ?_)
              refine lv_goto (tgt := 13) jx jb d_SC_just_62 (by decide) ?_
              exact ih13 (i + 1) (zu f2 i (-1)) (by omega) (by first | assumption | omega) (by first | exact zu_all hg (if_pos hc33).symm | exact zu_all hg (if_neg hc33).symm) _ _ (jP.sub [0, 1, 2, 3, 4, 5, 6, 7, 8, 9, 10] rfl) (jD.sub [0, 1, 2, 3, 4, 5, 6, 7, 8, 9, 10] (by decide) rfl) jS _ (lv_sub jl [2, 3, 1, 0] rfl)
      exact hloop13 ((256 - 0) + 1) 0 fp (Nat.lt_succ_self _) (by first | assumption | omega) (fun k h => absurd h (by omega)) _ _ (jP.sub [0, 1, 2, 3, 4, 5, 6, 7, 8, 9, 10] rfl) (jD.sub [0, 1, 2, 3, 4, 5, 6, 7, 8, 9, 10] (by decide) rfl) jS _ (lv_sub jl [2, 3, 1, 0] rfl)
    ·
      exact absurd hc4 (by decide)
  ·
    refine z_if_ne (tgt := 9) jx jb d_SC_just_4 (by decide) ⟨by decide, by decide⟩ (fun hc4 => ?_) (fun hc4 => ?_)
    ·
      exact absurd hc4 (by decide)
    ·
      refine lv_iconst (v := iZ 0) jx jb d_SC_just_7 rfl ?_
      exact jret _ _ _ ((o : Int), fp, gP, gS, gB, gA, gC, gF, gN) _ _ (Or.inr (Or.inl rfl)) (Or.inr ⟨rfl, fun q => absurd q.1 (by have := q.2.1; omega), rfl, rfl, rfl, rfl, rfl, rfl, rfl, rfl⟩) (jP.sub [0, 1, 2, 3, 4, 5, 6, 7, 8, 9, 10] rfl) (jD.sub [0, 1, 2, 3, 4, 5, 6, 7, 8, 9, 10] (by decide) rfl) jS d_SC_just_8
