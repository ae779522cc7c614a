theorem cd_Mod_isOrder : Cond.code y_Mod_isOrder b_Mod_isOrder 1 (some .boolean) ∈ zT := zT_of (List.mem_of_getElem? (i := 561) (by decide +kernel)) rfl
theorem hd_Mod_isOrder : y_Mod_isOrder.cls ≠ "java/lang/invoke/MethodHandle" ∧ y_Mod_isOrder.cls ≠ "java/lang/invoke/VarHandle" ∧ (parseMethodDescriptor y_Mod_isOrder.desc).map (fun d => d.parameters.length) = some 1 := by decide +kernel
theorem lk_Mod_60 : Cond.methodLink R_Mod 60 y_Mod_isOrder ∈ zT := zT_of (List.mem_of_getElem? (i := 559) (by decide +kernel)) rfl
theorem st_Mod_isOrder : Cond.static y_Mod_isOrder ∈ zT := zT_of (List.mem_of_getElem? (i := 560) (by decide +kernel)) rfl
theorem cd_Mod_drafted : Cond.code y_Mod_drafted b_Mod_drafted 3 (some .int) ∈ zT := zT_of (List.mem_of_getElem? (i := 565) (by decide +kernel)) rfl
theorem hd_Mod_drafted : y_Mod_drafted.cls ≠ "java/lang/invoke/MethodHandle" ∧ y_Mod_drafted.cls ≠ "java/lang/invoke/VarHandle" ∧ (parseMethodDescriptor y_Mod_drafted.desc).map (fun d => d.parameters.length) = some 0 := by decide +kernel
theorem lk_Mod_64 : Cond.methodLink R_Mod 64 y_Mod_drafted ∈ zT := zT_of (List.mem_of_getElem? (i := 562) (by decide +kernel)) rfl
theorem im_Mod_drafted : Cond.instanceMethod y_Mod_drafted ∈ zT := zT_of (List.mem_of_getElem? (i := 564) (by decide +kernel)) rfl
theorem se_Mod_drafted : Cond.selects R_Mod y_Mod_drafted y_Mod_drafted ∈ zT := zT_of (List.mem_of_getElem? (i := 11) (by decide +kernel)) rfl
theorem cd_Mod_settle : Cond.code y_Mod_settle b_Mod_settle 9 none ∈ zT := zT_of (List.mem_of_getElem? (i := 588) (by decide +kernel)) rfl
theorem hd_Mod_settle : y_Mod_settle.cls ≠ "java/lang/invoke/MethodHandle" ∧ y_Mod_settle.cls ≠ "java/lang/invoke/VarHandle" ∧ (parseMethodDescriptor y_Mod_settle.desc).map (fun d => d.parameters.length) = some 1 := by decide +kernel
theorem lk_Mod_74 : Cond.methodLink R_Mod 74 y_Mod_settle ∈ zT := zT_of (List.mem_of_getElem? (i := 585) (by decide +kernel)) rfl
theorem im_Mod_settle : Cond.instanceMethod y_Mod_settle ∈ zT := zT_of (List.mem_of_getElem? (i := 587) (by decide +kernel)) rfl
theorem se_Mod_settle : Cond.selects R_Mod y_Mod_settle y_Mod_settle ∈ zT := zT_of (List.mem_of_getElem? (i := 16) (by decide +kernel)) rfl
theorem d_Mod_just_0 : decode b_Mod_just 0 = .ok (.iconst 0, 1) := by decide +kernel
theorem d_Mod_just_1 : decode b_Mod_just 1 = .ok (.istore_n 2, 1) := by decide +kernel
theorem d_Mod_just_2 : decode b_Mod_just 2 = .ok (.iload_n 2, 1) := by decide +kernel
theorem d_Mod_just_3 : decode b_Mod_just 3 = .ok (.sipush 256, 3) := by decide +kernel
theorem d_Mod_just_6 : decode b_Mod_just 6 = .ok (.if_icmp .ge 36, 3) := by decide +kernel
theorem d_Mod_just_9 : decode b_Mod_just 9 = .ok (.aload_n 0, 1) := by decide +kernel
theorem d_Mod_just_10 : decode b_Mod_just 10 = .ok (.getfield 25, 3) := by decide +kernel
theorem d_Mod_just_13 : decode b_Mod_just 13 = .ok (.iload_n 2, 1) := by decide +kernel
theorem d_Mod_just_14 : decode b_Mod_just 14 = .ok (.aload_n 0, 1) := by decide +kernel
theorem d_Mod_just_15 : decode b_Mod_just 15 = .ok (.getfield 16, 3) := by decide +kernel
theorem d_Mod_just_18 : decode b_Mod_just 18 = .ok (.iload_n 2, 1) := by decide +kernel
theorem d_Mod_just_19 : decode b_Mod_just 19 = .ok (.iaload, 1) := by decide +kernel
theorem d_Mod_just_20 : decode b_Mod_just 20 = .ok (.ldc 45, 2) := by decide +kernel
theorem d_Mod_just_22 : decode b_Mod_just 22 = .ok (.if_icmp .ne 7, 3) := by decide +kernel
theorem d_Mod_just_25 : decode b_Mod_just 25 = .ok (.iconst (-1), 1) := by decide +kernel
theorem d_Mod_just_26 : decode b_Mod_just 26 = .ok (.goto 9, 3) := by decide +kernel
theorem d_Mod_just_29 : decode b_Mod_just 29 = .ok (.aload_n 0, 1) := by decide +kernel
theorem d_Mod_just_30 : decode b_Mod_just 30 = .ok (.getfield 16, 3) := by decide +kernel
theorem d_Mod_just_33 : decode b_Mod_just 33 = .ok (.iload_n 2, 1) := by decide +kernel
theorem d_Mod_just_34 : decode b_Mod_just 34 = .ok (.iaload, 1) := by decide +kernel
theorem d_Mod_just_35 : decode b_Mod_just 35 = .ok (.iastore, 1) := by decide +kernel
theorem d_Mod_just_36 : decode b_Mod_just 36 = .ok (.iinc 2 1, 3) := by decide +kernel
theorem d_Mod_just_39 : decode b_Mod_just 39 = .ok (.goto (-37), 3) := by decide +kernel
theorem d_Mod_just_42 : decode b_Mod_just 42 = .ok (.iload_n 1, 1) := by decide +kernel
theorem d_Mod_just_43 : decode b_Mod_just 43 = .ok (.invokestatic 60, 3) := by decide +kernel
theorem d_Mod_just_46 : decode b_Mod_just 46 = .ok (.ifCond .eq 13, 3) := by decide +kernel
theorem d_Mod_just_49 : decode b_Mod_just 49 = .ok (.aload_n 0, 1) := by decide +kernel
theorem d_Mod_just_50 : decode b_Mod_just 50 = .ok (.invokevirtual 64, 3) := by decide +kernel
theorem d_Mod_just_53 : decode b_Mod_just 53 = .ok (.iconst 1, 1) := by decide +kernel
theorem d_Mod_just_54 : decode b_Mod_just 54 = .ok (.iload_n 1, 1) := by decide +kernel
theorem d_Mod_just_55 : decode b_Mod_just 55 = .ok (.ishl, 1) := by decide +kernel
theorem d_Mod_just_56 : decode b_Mod_just 56 = .ok (.if_icmp .eq 5, 3) := by decide +kernel
theorem d_Mod_just_59 : decode b_Mod_just 59 = .ok (.iconst 0, 1) := by decide +kernel
theorem d_Mod_just_60 : decode b_Mod_just 60 = .ok (.ireturn, 1) := by decide +kernel
theorem d_Mod_just_61 : decode b_Mod_just 61 = .ok (.aload_n 0, 1) := by decide +kernel
theorem d_Mod_just_62 : decode b_Mod_just 62 = .ok (.iload_n 1, 1) := by decide +kernel
theorem d_Mod_just_63 : decode b_Mod_just 63 = .ok (.invokevirtual 74, 3) := by decide +kernel
theorem d_Mod_just_66 : decode b_Mod_just 66 = .ok (.iconst 1, 1) := by decide +kernel
theorem d_Mod_just_67 : decode b_Mod_just 67 = .ok (.ireturn, 1) := by decide +kernel
abbrev rm_M_just : Room := { frames := 2, cells := 0, slots := 0, locals := 42 }
set_option maxHeartbeats 4000000 in
set_option maxRecDepth 100000 in
theorem c_M_just (l : Launch) (D : va_G) (cI cB cZ : ClassId) (sz : Nat) (r : Nat) (ri : Nat) (ro : Nat) (rc : Nat) (rp : Nat) (rs : Nat) (rd : Nat) (rk : Nat) (rh : Nat) (iL : Int) (go : Int) (oL : Int) (o : Nat) (bP : Int) (bR : Int) (xc : Nat → Int) (xp : Nat → Int) (xs : Nat → Int) (xd : Nat → Int) (x : Int) (hcr : ∀ k, k < 256 → 0 ≤ xc k ∧ xc k ≤ 65535) (hx1 : -2147483648 ≤ x ∧ x < 2147483648) : Met l y_Mod_just (.code y_Mod_just b_Mod_just 3 (some .boolean) :: zT) rm_M_just (zPc D classes (TY cI cB cZ) [(r, .inr (4, [.ref ri, .int (iZ iL), .int (iZ go), .ref ro, .int (iZ oL), .ref rc, .int (iZ (o : Int)), .ref rp, .ref rs, .ref rd, .ref rk, .ref rh, .int (iZ bP), .int (iZ bR)])), (rc, .inl (cI, 256, .inl (zA xc))), (rp, .inl (cI, 256, .inl (zA xp))), (rs, .inl (cI, 4096, .inl (zA xs))), (rd, .inl (cI, 256, .inl (zA xd)))] sz [.ref r, .int (iZ x)]) (zFi (S := Int × (Nat → Int) × (Nat → Int) × (Nat → Int)) D classes (fun z u => (z = 1 ∧ jOK xc x ∧ u.1 = x ∧ (∀ k, k < 256 → u.2.1 k = jp xc k) ∧ u.2.2.1 = tbT u.2.1 x.toNat xs) ∨ (z = 0 ∧ ¬ jOK xc x ∧ u.1 = (o : Int) ∧ u.2.1 = xp ∧ u.2.2.1 = xs)) (fun u => [(r, .inr (4, [.ref ri, .int (iZ iL), .int (iZ go), .ref ro, .int (iZ oL), .ref rc, .int (iZ u.1), .ref rp, .ref rs, .ref rd, .ref rk, .ref rh, .int (iZ bP), .int (iZ bR)])), (rc, .inl (cI, 256, .inl (zA xc))), (rp, .inl (cI, 256, .inl (zA u.2.1))), (rs, .inl (cI, 4096, .inl (zA u.2.2.1))), (rd, .inl (cI, 256, .inl (zA u.2.2.2)))]) (va_A [(r, .inr (4, [.ref ri, .int (iZ iL), .int (iZ go), .ref ro, .int (iZ oL), .ref rc, .int (iZ (o : Int)), .ref rp, .ref rs, .ref rd, .ref rk, .ref rh, .int (iZ bP), .int (iZ bR)])), (rc, .inl (cI, 256, .inl (zA xc))), (rp, .inl (cI, 256, .inl (zA xp))), (rs, .inl (cI, 4096, .inl (zA xs))), (rd, .inl (cI, 256, .inl (zA xd)))] sz)) 0 0 (va_A [(r, .inr (4, [.ref ri, .int (iZ iL), .int (iZ go), .ref ro, .int (iZ oL), .ref rc, .int (iZ (o : Int)), .ref rp, .ref rs, .ref rd, .ref rk, .ref rh, .int (iZ bP), .int (iZ bR)])), (rc, .inl (cI, 256, .inl (zA xc))), (rp, .inl (cI, 256, .inl (zA xp))), (rs, .inl (cI, 4096, .inl (zA xs))), (rd, .inl (cI, 256, .inl (zA xd)))] sz) := by
  refine z_ofi (by decide) (Nat.le_of_ble_eq_true rfl) (Or.inr rfl) ?_
  intro p e s m args below meth c A Q E jA jK jret H locs jP jD jS ls jl
  obtain ⟨jx, jb, jrt, jml, jown, jts, jlk⟩ := E
  have jown : s.vm.findClass R_Mod = some m.cls := jown
  have jl : lv_has ls 3 [(0, .ref r), (1, .int (iZ x))] := jl
  refine lv_iconst (v := iZ 0) jx jb d_Mod_just_0 rfl ?_
  refine lv_istore_n (lv' := [(2, .int (iZ 0)), (0, .ref r), (1, .int (iZ x))]) jx jb d_Mod_just_1 rfl jl (by decide) rfl (fun ls jl => ?_)
  have hloop2 : ∀ (nF : Nat) (i : Nat) (d2 : Nat → Int), 256 - i < nF → (i ≤ 256) → (∀ k, k < i → d2 k = jp xc k) → ∀ (H : Heap) (locs : List Loc), va_P D classes [(r, .inr (4, [.ref ri, .int (iZ iL), .int (iZ go), .ref ro, .int (iZ oL), .ref rc, .int (iZ (o : Int)), .ref rp, .ref rs, .ref rd, .ref rk, .ref rh, .int (iZ bP), .int (iZ bR)])), (rc, .inl (cI, 256, .inl (zA xc))), (rp, .inl (cI, 256, .inl (zA xp))), (rs, .inl (cI, 4096, .inl (zA xs))), (rd, .inl (cI, 256, .inl (zA d2)))] H → va_D A [(r, .inr (4, [.ref ri, .int (iZ iL), .int (iZ go), .ref ro, .int (iZ oL), .ref rc, .int (iZ (o : Int)), .ref rp, .ref rs, .ref rd, .ref rk, .ref rh, .int (iZ bP), .int (iZ bR)])), (rc, .inl (cI, 256, .inl (zA xc))), (rp, .inl (cI, 256, .inl (zA xp))), (rs, .inl (cI, 4096, .inl (zA xs))), (rd, .inl (cI, 256, .inl (zA d2)))] → va_S A s.heap H locs → ∀ ls : Array Slot, lv_has ls 3 [(0, .ref r), (1, .int (iZ x)), (2, .int (iZ (i : Int)))] → W p l e rm_M_just s m args below meth c H locs 0 0 Q (F0 m 2 ls []) := by
    intro nF
    induction nF with
    | zero => intro i d2 hm; exact absurd hm (Nat.not_lt_zero _)
    | succ nF ih2 =>
      intro i d2 hm hi hg H locs jP jD jS ls jl
      refine lv_iload_n jx jb d_Mod_just_2 rfl (lv_at jl 2 rfl) ?_
      refine lv_sipush (v := iZ 256) jx jb d_Mod_just_3 (by decide) ?_
      refine z_icmp_ge (tgt := 42) jx jb d_Mod_just_6 (by decide) ⟨⟨by omega, by omega⟩, ⟨by decide, by decide⟩⟩ (fun hc6 => ?_) (fun hc6 => ?_)
      ·
        obtain rfl : 256 = i := by omega
        have hjr : ∀ k, k < 256 → -1 ≤ d2 k ∧ d2 k ≤ 65536 := fun k hk => by rw [hg k hk]; exact jp_b (hcr k hk)
        have hcc : cum d2 256 = cum (jp xc) 256 := cum_congr (fun k hk => hg k hk)
        have hcb := cum_hi (n := 256) hjr
        refine lv_iload_n jx jb d_Mod_just_42 rfl (lv_at jl 1 rfl) ?_
        refine z_backr (va_runS (As := [.int (iZ x)]) (rest := []) ⟨jx, jb, jml, jown, jts⟩ (c_M_isOrder l D cI cB cZ x (by first | assumption | omega)) (zc_S 1 jts cd_Mod_isOrder lk_Mod_60 st_Mod_isOrder in_Mod hd_Mod_isOrder ⟨Nat.le_of_ble_eq_true rfl, Nat.le_of_ble_eq_true rfl⟩ rfl rfl) (z_preSR jK jP [] rfl) rfl rfl jl.1 rfl (lv_room (Nat.le_of_ble_eq_true rfl)) d_Mod_just_43 ⟨Nat.le_of_ble_eq_true rfl, Nat.le_of_ble_eq_true rfl⟩) (fun z43 hz43 => ?_)
        rcases hz43 with ⟨rfl, hq43⟩ | ⟨rfl, hq43⟩
        ·
          refine z_if_eq (tgt := 59) jx jb d_Mod_just_46 (by decide) ⟨by decide, by decide⟩ (fun hc46 => ?_) (fun hc46 => ?_)
          ·
            exact absurd hc46 (by decide)
          ·
            have hp12 := p2_le (show x.toNat ≤ 12 by omega)
            have hp0 := p2_pos x.toNat
            refine lv_aload_n jx jb d_Mod_just_49 rfl (lv_at jl 0 rfl) ?_
            refine z_backe (va_runV (As := []) (rest := []) ⟨jx, jb, jml, jown, jts⟩ (c_M_drafted l D cI cB cZ r ri ro rc rp rs rd rk rh iL go oL o bP bR d2 (hjr)) (zc_V 0 jts cd_Mod_drafted lk_Mod_64 im_Mod_drafted se_Mod_drafted in_Mod hd_Mod_drafted ⟨Nat.le_of_ble_eq_true rfl, Nat.le_of_ble_eq_true rfl⟩ rfl rfl) (z_preVR jK jP [0, 4] rfl rfl rfl) rfl rfl jl.1 rfl (lv_room (Nat.le_of_ble_eq_true rfl)) d_Mod_just_50 ⟨Nat.le_of_ble_eq_true rfl, Nat.le_of_ble_eq_true rfl⟩) ?_
            refine lv_iconst (v := iZ 1) jx jb d_Mod_just_53 rfl ?_
            refine lv_iload_n jx jb d_Mod_just_54 rfl (lv_at jl 1 rfl) ?_
            refine z_ishl jx jb d_Mod_just_55 x.toNat (2 ^ x.toNat) (rfl) (by omega) ?_
            refine z_top (2 ^ x.toNat) (Int.one_mul _) ?_
            refine z_icmp_eq (tgt := 61) jx jb d_Mod_just_56 (by decide) ⟨⟨by omega, by omega⟩, ⟨by omega, by omega⟩⟩ (fun hc56 => ?_) (fun hc56 => ?_)
            ·
              refine lv_aload_n jx jb d_Mod_just_61 rfl (lv_at jl 0 rfl) ?_
              refine lv_iload_n jx jb d_Mod_just_62 rfl (lv_at jl 1 rfl) ?_
              refine z_top ((x.toNat : Nat) : Int) (by omega) ?_
              refine z_backv (wr := [(rc, .inl (cI, 256, .inl (zA xc)))]) jP jD jS jA [0, 2, 3, 4] [1] rfl rfl (by decide) (by decide) (va_runV (As := [.int (iZ ((x.toNat : Nat) : Int))]) (rest := []) ⟨jx, jb, jml, jown, jts⟩ (c_M_settle l D cI cB cZ H.size r ri ro rc rp rs rd rk rh iL go oL bP bR (o : Int) (x.toNat : Nat) xp xs d2 (by omega) (hjr) (hc56)) (zc_V 1 jts cd_Mod_settle lk_Mod_74 im_Mod_settle se_Mod_settle in_Mod hd_Mod_settle ⟨Nat.le_of_ble_eq_true rfl, Nat.le_of_ble_eq_true rfl⟩ rfl rfl) (z_preV jK jP jD [0, 2, 3, 4] (by decide) rfl rfl rfl rfl) rfl rfl jl.1 rfl (lv_room (Nat.le_of_ble_eq_true rfl)) d_Mod_just_63 ⟨Nat.le_of_ble_eq_true rfl, Nat.le_of_ble_eq_true rfl⟩) (fun u63 H locs hu63 jP jD jS => ?_)
              obtain ⟨xp1_63, xs1_63⟩ := u63
              have jP : va_P D classes [(r, .inr (4, [.ref ri, .int (iZ iL), .int (iZ go), .ref ro, .int (iZ oL), .ref rc, .int (iZ ((x.toNat : Nat) : Int)), .ref rp, .ref rs, .ref rd, .ref rk, .ref rh, .int (iZ bP), .int (iZ bR)])), (rc, .inl (cI, 256, .inl (zA xc))), (rp, .inl (cI, 256, .inl (zA xp1_63))), (rs, .inl (cI, 4096, .inl (zA xs1_63))), (rd, .inl (cI, 256, .inl (zA d2)))] H := jP.sub [1, 0, 2, 3, 4] rfl
              have jD : va_D A [(r, .inr (4, [.ref ri, .int (iZ iL), .int (iZ go), .ref ro, .int (iZ oL), .ref rc, .int (iZ ((x.toNat : Nat) : Int)), .ref rp, .ref rs, .ref rd, .ref rk, .ref rh, .int (iZ bP), .int (iZ bR)])), (rc, .inl (cI, 256, .inl (zA xc))), (rp, .inl (cI, 256, .inl (zA xp1_63))), (rs, .inl (cI, 4096, .inl (zA xs1_63))), (rd, .inl (cI, 256, .inl (zA d2)))] := jD.sub [1, 0, 2, 3, 4] (by decide) rfl
              obtain ⟨hu1, hu2⟩ := hu63
              refine lv_iconst (v := iZ 1) jx jb d_Mod_just_66 rfl ?_
              exact jret _ _ _ (((x.toNat : Nat) : Int), xp1_63, xs1_63, d2) _ _ (Or.inr (Or.inr rfl)) (Or.inl ⟨rfl, ⟨by omega, by omega, hcc.symm.trans hc56⟩, by omega, fun k hk => (hu1 k hk).trans (hg k hk), hu2⟩) (jP.sub [0, 1, 2, 3, 4] rfl) (jD.sub [0, 1, 2, 3, 4] (by decide) rfl) jS d_Mod_just_67
            ·
              refine lv_iconst (v := iZ 0) jx jb d_Mod_just_59 rfl ?_
              exact jret _ _ _ ((o : Int), xp, xs, d2) _ _ (Or.inr (Or.inl rfl)) (by first | exact Or.inr ⟨rfl, fun q => absurd q.1 (by have := q.2.1; omega), rfl, rfl, rfl⟩ | exact Or.inr ⟨rfl, fun q => hc56 (hcc.trans q.2.2), rfl, rfl, rfl⟩) (jP.sub [0, 1, 2, 3, 4] rfl) (jD.sub [0, 1, 2, 3, 4] (by decide) rfl) jS d_Mod_just_60
        ·
          refine z_if_eq (tgt := 59) jx jb d_Mod_just_46 (by decide) ⟨by decide, by decide⟩ (fun hc46 => ?_) (fun hc46 => ?_)
          ·
            refine lv_iconst (v := iZ 0) jx jb d_Mod_just_59 rfl ?_
            exact jret _ _ _ ((o : Int), xp, xs, d2) _ _ (Or.inr (Or.inl rfl)) (by first | exact Or.inr ⟨rfl, fun q => absurd q.1 (by have := q.2.1; omega), rfl, rfl, rfl⟩ | exact Or.inr ⟨rfl, fun q => hc56 (hcc.trans q.2.2), rfl, rfl, rfl⟩) (jP.sub [0, 1, 2, 3, 4] rfl) (jD.sub [0, 1, 2, 3, 4] (by decide) rfl) jS d_Mod_just_60
          ·
            exact absurd hc46 (by decide)
      ·
        refine lv_aload_n jx jb d_Mod_just_9 rfl (lv_at jl 0 rfl) ?_
        refine va_get (D := D) (ci := 4) (v := .ref rd) (C := R_Mod) (T := F_Mod) (N := 14) jx jb jts i_Mod jown jK.1 jP 0 rfl rfl 9 (by decide) (jts _ fl_Mod_25) (fun _ h9 => h9) rfl d_Mod_just_10 ?_
        refine lv_iload_n jx jb d_Mod_just_13 rfl (lv_at jl 2 rfl) ?_
        refine lv_aload_n jx jb d_Mod_just_14 rfl (lv_at jl 0 rfl) ?_
        refine va_get (D := D) (ci := 4) (v := .ref rc) (C := R_Mod) (T := F_Mod) (N := 14) jx jb jts i_Mod jown jK.1 jP 0 rfl rfl 5 (by decide) (jts _ fl_Mod_16) (fun _ h9 => h9) rfl d_Mod_just_15 ?_
        refine lv_iload_n jx jb d_Mod_just_18 rfl (lv_at jl 2 rfl) ?_
        refine z_iald jx jb jK.1 jP 1 0 rfl rfl i (by omega) d_Mod_just_19 ?_
        refine lv_ldc (v := iZ 65535) jx jb jown (jts _ cn_Mod_45) d_Mod_just_20 ?_
        have hci := hcr i (by omega)
        refine z_icmp_ne (tgt := 29) jx jb d_Mod_just_22 (by decide) ⟨⟨by omega, by omega⟩, ⟨by decide, by decide⟩⟩ (fun hc22 => ?_) (fun hc22 => ?_)
        ·
          refine lv_aload_n jx jb d_Mod_just_29 rfl (lv_at jl 0 rfl) ?_
          refine va_get (D := D) (ci := 4) (v := .ref rc) (C := R_Mod) (T := F_Mod) (N := 14) jx jb jts i_Mod jown jK.1 jP 0 rfl rfl 5 (by decide) (jts _ fl_Mod_16) (fun _ h9 => h9) rfl d_Mod_just_30 ?_
          refine lv_iload_n jx jb d_Mod_just_33 rfl (lv_at jl 2 rfl) ?_
          refine z_iald jx jb jK.1 jP 1 0 rfl rfl i (by omega) d_Mod_just_34 ?_
          refine z_iast jx jb jK.1 jP jD jS 4 0 rfl rfl i (by omega) d_Mod_just_35 (fun H locs jP jD jS => ?_)
          have jP : va_P D classes [(r, .inr (4, [.ref ri, .int (iZ iL), .int (iZ go), .ref ro, .int (iZ oL), .ref rc, .int (iZ (o : Int)), .ref rp, .ref rs, .ref rd, .ref rk, .ref rh, .int (iZ bP), .int (iZ bR)])), (rc, .inl (cI, 256, .inl (zA xc))), (rp, .inl (cI, 256, .inl (zA xp))), (rs, .inl (cI, 4096, .inl (zA xs))), (rd, .inl (cI, 256, .inl (zA (zu d2 i (xc i)))))] H := jP
          have jD : va_D A [(r, .inr (4, [.ref ri, .int (iZ iL), .int (iZ go), .ref ro, .int (iZ oL), .ref rc, .int (iZ (o : Int)), .ref rp, .ref rs, .ref rd, .ref rk, .ref rh, .int (iZ bP), .int (iZ bR)])), (rc, .inl (cI, 256, .inl (zA xc))), (rp, .inl (cI, 256, .inl (zA xp))), (rs, .inl (cI, 4096, .inl (zA xs))), (rd, .inl (cI, 256, .inl (zA (zu d2 i (xc i)))))] := jD
          refine lv_iinc (v := iZ ((i : Int) + 1)) (lv' := [(2, .int (iZ ((i : Int) + 1))), (0, .ref r), (1, .int (iZ x))]) jx jb d_Mod_just_36 jl (k := 2) rfl (iZ_add _ _) (by decide) rfl (fun ls jl => ?_)
          refine lv_goto (tgt := 2) jx jb d_Mod_just_39 (by decide) ?_
          exact ih2 (i + 1) (zu d2 i (xc i)) (by omega) (by first | assumption | omega) (by first | exact zu_all hg (if_pos hc22).symm | exact zu_all hg (if_neg hc22).symm) _ _ (jP.sub [0, 1, 2, 3, 4] rfl) (jD.sub [0, 1, 2, 3, 4] (by decide) rfl) jS _ (lv_sub jl [1, 2, 0] rfl)
        ·
          refine lv_iconst (v := iZ (-1)) jx jb d_Mod_just_25 rfl ?_
          refine lv_goto (tgt := 35) jx jb d_Mod_just_26 (by decide) ?_
          refine z_iast jx jb jK.1 jP jD jS 4 0 rfl rfl i (by omega) d_Mod_just_35 (fun H locs jP jD jS => ?_)
          have jP : va_P D classes [(r, .inr (4, [.ref ri, .int (iZ iL), .int (iZ go), .ref ro, .int (iZ oL), .ref rc, .int (iZ (o : Int)), .ref rp, .ref rs, .ref rd, .ref rk, .ref rh, .int (iZ bP), .int (iZ bR)])), (rc, .inl (cI, 256, .inl (zA xc))), (rp, .inl (cI, 256, .inl (zA xp))), (rs, .inl (cI, 4096, .inl (zA xs))), (rd, .inl (cI, 256, .inl (zA (zu d2 i (-1)))))] H := jP
          have jD : va_D A [(r, .inr (4, [.ref ri, .int (iZ iL), .int (iZ go), .ref ro, .int (iZ oL), .ref rc, .int (iZ (o : Int)), .ref rp, .ref rs, .ref rd, .ref rk, .ref rh, .int (iZ bP), .int (iZ bR)])), (rc, .inl (cI, 256, .inl (zA xc))), (rp, .inl (cI, 256, .inl (zA xp))), (rs, .inl (cI, 4096, .inl (zA xs))), (rd, .inl (cI, 256, .inl (zA (zu d2 i (-1)))))] := jD
          refine lv_iinc (v := iZ ((i : Int) + 1)) (lv' := [(2, .int (iZ ((i : Int) + 1))), (0, .ref r), (1, .int (iZ x))]) jx jb d_Mod_just_36 jl (k := 2) rfl (iZ_add _ _) (by decide) rfl (fun ls jl => ?_)
          refine lv_goto (tgt := 2) jx jb d_Mod_just_39 (by decide) ?_
          exact ih2 (i + 1) (zu d2 i (-1)) (by omega) (by first | assumption | omega) (by first | exact zu_all hg (if_pos hc22).symm | exact zu_all hg (if_neg hc22).symm) _ _ (jP.sub [0, 1, 2, 3, 4] rfl) (jD.sub [0, 1, 2, 3, 4] (by decide) rfl) jS _ (lv_sub jl [1, 2, 0] rfl)
  exact hloop2 ((256 - 0) + 1) 0 xd (Nat.lt_succ_self _) (by first | assumption | omega) (fun k h => absurd h (by omega)) _ _ (jP.sub [0, 1, 2, 3, 4] rfl) (jD.sub [0, 1, 2, 3, 4] (by decide) rfl) jS _ (lv_sub jl [1, 2, 0] rfl)
