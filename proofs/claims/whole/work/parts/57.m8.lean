
theorem d_Mod_takeNumber_0 : decode b_Mod_takeNumber 0 = .ok (.iload_n 1, 1) := by decide +kernel
theorem d_Mod_takeNumber_1 : decode b_Mod_takeNumber 1 = .ok (.invokestatic 80, 3) := by decide +kernel
theorem d_Mod_takeNumber_4 : decode b_Mod_takeNumber 4 = .ok (.istore_n 2, 1) := by decide +kernel
theorem d_Mod_takeNumber_5 : decode b_Mod_takeNumber 5 = .ok (.iconst 1, 1) := by decide +kernel
theorem d_Mod_takeNumber_6 : decode b_Mod_takeNumber 6 = .ok (.iload_n 2, 1) := by decide +kernel
theorem d_Mod_takeNumber_7 : decode b_Mod_takeNumber 7 = .ok (.ishl, 1) := by decide +kernel
theorem d_Mod_takeNumber_8 : decode b_Mod_takeNumber 8 = .ok (.istore_n 3, 1) := by decide +kernel
theorem d_Mod_takeNumber_9 : decode b_Mod_takeNumber 9 = .ok (.iconst 2, 1) := by decide +kernel
theorem d_Mod_takeNumber_10 : decode b_Mod_takeNumber 10 = .ok (.iload_n 3, 1) := by decide +kernel
theorem d_Mod_takeNumber_11 : decode b_Mod_takeNumber 11 = .ok (.imul, 1) := by decide +kernel
theorem d_Mod_takeNumber_12 : decode b_Mod_takeNumber 12 = .ok (.iconst 2, 1) := by decide +kernel
theorem d_Mod_takeNumber_13 : decode b_Mod_takeNumber 13 = .ok (.isub, 1) := by decide +kernel
theorem d_Mod_takeNumber_14 : decode b_Mod_takeNumber 14 = .ok (.iload_n 1, 1) := by decide +kernel
theorem d_Mod_takeNumber_15 : decode b_Mod_takeNumber 15 = .ok (.isub, 1) := by decide +kernel
theorem d_Mod_takeNumber_16 : decode b_Mod_takeNumber 16 = .ok (.istore 4, 2) := by decide +kernel
theorem d_Mod_takeNumber_18 : decode b_Mod_takeNumber 18 = .ok (.aload_n 0, 1) := by decide +kernel
theorem d_Mod_takeNumber_19 : decode b_Mod_takeNumber 19 = .ok (.iload_n 2, 1) := by decide +kernel
theorem d_Mod_takeNumber_20 : decode b_Mod_takeNumber 20 = .ok (.invokevirtual 99, 3) := by decide +kernel
theorem d_Mod_takeNumber_23 : decode b_Mod_takeNumber 23 = .ok (.istore 5, 2) := by decide +kernel
theorem d_Mod_takeNumber_25 : decode b_Mod_takeNumber 25 = .ok (.iload 5, 2) := by decide +kernel
theorem d_Mod_takeNumber_27 : decode b_Mod_takeNumber 27 = .ok (.iconst (-1), 1) := by decide +kernel
theorem d_Mod_takeNumber_28 : decode b_Mod_takeNumber 28 = .ok (.if_icmp .eq 10, 3) := by decide +kernel
theorem d_Mod_takeNumber_31 : decode b_Mod_takeNumber 31 = .ok (.iload 5, 2) := by decide +kernel
theorem d_Mod_takeNumber_33 : decode b_Mod_takeNumber 33 = .ok (.iload 4, 2) := by decide +kernel
theorem d_Mod_takeNumber_35 : decode b_Mod_takeNumber 35 = .ok (.if_icmp .ge 6, 3) := by decide +kernel
theorem d_Mod_takeNumber_38 : decode b_Mod_takeNumber 38 = .ok (.iload 5, 2) := by decide +kernel
theorem d_Mod_takeNumber_40 : decode b_Mod_takeNumber 40 = .ok (.ireturn, 1) := by decide +kernel
theorem d_Mod_takeNumber_41 : decode b_Mod_takeNumber 41 = .ok (.aload_n 0, 1) := by decide +kernel
theorem d_Mod_takeNumber_42 : decode b_Mod_takeNumber 42 = .ok (.iconst 1, 1) := by decide +kernel
theorem d_Mod_takeNumber_43 : decode b_Mod_takeNumber 43 = .ok (.invokevirtual 99, 3) := by decide +kernel
theorem d_Mod_takeNumber_46 : decode b_Mod_takeNumber 46 = .ok (.istore 6, 2) := by decide +kernel
theorem d_Mod_takeNumber_48 : decode b_Mod_takeNumber 48 = .ok (.iload 6, 2) := by decide +kernel
theorem d_Mod_takeNumber_50 : decode b_Mod_takeNumber 50 = .ok (.iconst (-1), 1) := by decide +kernel
theorem d_Mod_takeNumber_51 : decode b_Mod_takeNumber 51 = .ok (.if_icmp .ne 7, 3) := by decide +kernel
theorem d_Mod_takeNumber_54 : decode b_Mod_takeNumber 54 = .ok (.iconst (-1), 1) := by decide +kernel
theorem d_Mod_takeNumber_55 : decode b_Mod_takeNumber 55 = .ok (.goto 20, 3) := by decide +kernel
theorem d_Mod_takeNumber_58 : decode b_Mod_takeNumber 58 = .ok (.iload 6, 2) := by decide +kernel
theorem d_Mod_takeNumber_60 : decode b_Mod_takeNumber 60 = .ok (.ifCond .ne 8, 3) := by decide +kernel
theorem d_Mod_takeNumber_63 : decode b_Mod_takeNumber 63 = .ok (.iload 5, 2) := by decide +kernel
theorem d_Mod_takeNumber_65 : decode b_Mod_takeNumber 65 = .ok (.goto 10, 3) := by decide +kernel
theorem d_Mod_takeNumber_68 : decode b_Mod_takeNumber 68 = .ok (.iload 5, 2) := by decide +kernel
theorem d_Mod_takeNumber_70 : decode b_Mod_takeNumber 70 = .ok (.iload_n 3, 1) := by decide +kernel
theorem d_Mod_takeNumber_71 : decode b_Mod_takeNumber 71 = .ok (.iadd, 1) := by decide +kernel
theorem d_Mod_takeNumber_72 : decode b_Mod_takeNumber 72 = .ok (.iload 4, 2) := by decide +kernel
theorem d_Mod_takeNumber_74 : decode b_Mod_takeNumber 74 = .ok (.isub, 1) := by decide +kernel
theorem d_Mod_takeNumber_75 : decode b_Mod_takeNumber 75 = .ok (.ireturn, 1) := by decide +kernel
theorem d_Mod_takeZeros_0 : decode b_Mod_takeZeros 0 = .ok (.iload_n 1, 1) := by decide +kernel
theorem d_Mod_takeZeros_1 : decode b_Mod_takeZeros 1 = .ok (.istore_n 3, 1) := by decide +kernel
theorem d_Mod_takeZeros_2 : decode b_Mod_takeZeros 2 = .ok (.iconst 0, 1) := by decide +kernel
theorem d_Mod_takeZeros_3 : decode b_Mod_takeZeros 3 = .ok (.istore 4, 2) := by decide +kernel
theorem d_Mod_takeZeros_5 : decode b_Mod_takeZeros 5 = .ok (.iload 4, 2) := by decide +kernel
theorem d_Mod_takeZeros_7 : decode b_Mod_takeZeros 7 = .ok (.sipush 300, 3) := by decide +kernel
theorem d_Mod_takeZeros_10 : decode b_Mod_takeZeros 10 = .ok (.if_icmp .ge 46, 3) := by decide +kernel
theorem d_Mod_takeZeros_13 : decode b_Mod_takeZeros 13 = .ok (.aload_n 0, 1) := by decide +kernel
theorem d_Mod_takeZeros_14 : decode b_Mod_takeZeros 14 = .ok (.iconst 2, 1) := by decide +kernel
theorem d_Mod_takeZeros_15 : decode b_Mod_takeZeros 15 = .ok (.invokevirtual 99, 3) := by decide +kernel
theorem d_Mod_takeZeros_18 : decode b_Mod_takeZeros 18 = .ok (.istore 5, 2) := by decide +kernel
theorem d_Mod_takeZeros_20 : decode b_Mod_takeZeros 20 = .ok (.iload 5, 2) := by decide +kernel
theorem d_Mod_takeZeros_22 : decode b_Mod_takeZeros 22 = .ok (.iconst (-1), 1) := by decide +kernel
theorem d_Mod_takeZeros_23 : decode b_Mod_takeZeros 23 = .ok (.if_icmp .ne 6, 3) := by decide +kernel
theorem d_Mod_takeZeros_26 : decode b_Mod_takeZeros 26 = .ok (.bipush (-3), 2) := by decide +kernel
theorem d_Mod_takeZeros_28 : decode b_Mod_takeZeros 28 = .ok (.ireturn, 1) := by decide +kernel
theorem d_Mod_takeZeros_29 : decode b_Mod_takeZeros 29 = .ok (.iload_n 3, 1) := by decide +kernel
theorem d_Mod_takeZeros_30 : decode b_Mod_takeZeros 30 = .ok (.iload 5, 2) := by decide +kernel
theorem d_Mod_takeZeros_32 : decode b_Mod_takeZeros 32 = .ok (.iadd, 1) := by decide +kernel
theorem d_Mod_takeZeros_33 : decode b_Mod_takeZeros 33 = .ok (.istore_n 3, 1) := by decide +kernel
theorem d_Mod_takeZeros_34 : decode b_Mod_takeZeros 34 = .ok (.iload_n 3, 1) := by decide +kernel
theorem d_Mod_takeZeros_35 : decode b_Mod_takeZeros 35 = .ok (.iload_n 2, 1) := by decide +kernel
theorem d_Mod_takeZeros_36 : decode b_Mod_takeZeros 36 = .ok (.if_icmp .lt 6, 3) := by decide +kernel
theorem d_Mod_takeZeros_39 : decode b_Mod_takeZeros 39 = .ok (.bipush (-2), 2) := by decide +kernel
theorem d_Mod_takeZeros_41 : decode b_Mod_takeZeros 41 = .ok (.ireturn, 1) := by decide +kernel
theorem d_Mod_takeZeros_42 : decode b_Mod_takeZeros 42 = .ok (.iload 5, 2) := by decide +kernel
theorem d_Mod_takeZeros_44 : decode b_Mod_takeZeros 44 = .ok (.iconst 3, 1) := by decide +kernel
theorem d_Mod_takeZeros_45 : decode b_Mod_takeZeros 45 = .ok (.if_icmp .ge 5, 3) := by decide +kernel
theorem d_Mod_takeZeros_48 : decode b_Mod_takeZeros 48 = .ok (.iload_n 3, 1) := by decide +kernel
theorem d_Mod_takeZeros_49 : decode b_Mod_takeZeros 49 = .ok (.ireturn, 1) := by decide +kernel
theorem d_Mod_takeZeros_50 : decode b_Mod_takeZeros 50 = .ok (.iinc 4 1, 3) := by decide +kernel
theorem d_Mod_takeZeros_53 : decode b_Mod_takeZeros 53 = .ok (.goto (-48), 3) := by decide +kernel
abbrev rm_M_takeNumber : Room := { frames := 1, cells := 0, slots := 0, locals := 24 }
set_option maxHeartbeats 4000000 in
set_option maxRecDepth 100000 in
theorem c_M_takeNumber (l : Launch) (D : va_G) (cI cB cZ : ClassId) (sz : Nat) (r : Nat) (ri : Nat) (ro : Nat) (rc : Nat) (rp : Nat) (rs : Nat) (rd : Nat) (rk : Nat) (rh : Nat) (iL : Int) (go : Int) (oL : Int) (o : Nat) (bP : Int) (xi : Nat → Int) (t : Nat) (R1 : Int) (hiL : 0 ≤ iL ∧ iL ≤ 6000) (hgo : 0 ≤ go ∧ go ≤ iL) (hxi : ∀ k, k < 6000 → 0 ≤ xi k ∧ xi k < 256) (ht : t ≤ 48000) (hR : 1 ≤ R1 ∧ R1 ≤ 4096) : Met l y_Mod_takeNumber (.code y_Mod_takeNumber b_Mod_takeNumber 7 (some .int) :: zT) rm_M_takeNumber (zPc D classes (TY cI cB cZ) [(r, .inr (4, [.ref ri, .int (iZ iL), .int (iZ go), .ref ro, .int (iZ oL), .ref rc, .int (iZ (o : Int)), .ref rp, .ref rs, .ref rd, .ref rk, .ref rh, .int (iZ bP), .int (iZ (t : Int))])), (ri, .inl (cI, 6000, .inl (zA xi)))] sz [.ref r, .int (iZ R1)]) (zFi (S := Int) D classes (fun z u => tkP xi (8 * go.toNat + t) (8 * (iL - go) - t) R1 z t u) (fun u => [(r, .inr (4, [.ref ri, .int (iZ iL), .int (iZ go), .ref ro, .int (iZ oL), .ref rc, .int (iZ (o : Int)), .ref rp, .ref rs, .ref rd, .ref rk, .ref rh, .int (iZ bP), .int (iZ u)])), (ri, .inl (cI, 6000, .inl (zA xi)))]) (va_A [(r, .inr (4, [.ref ri, .int (iZ iL), .int (iZ go), .ref ro, .int (iZ oL), .ref rc, .int (iZ (o : Int)), .ref rp, .ref rs, .ref rd, .ref rk, .ref rh, .int (iZ bP), .int (iZ (t : Int))])), (ri, .inl (cI, 6000, .inl (zA xi)))] sz)) 0 0 (va_A [(r, .inr (4, [.ref ri, .int (iZ iL), .int (iZ go), .ref ro, .int (iZ oL), .ref rc, .int (iZ (o : Int)), .ref rp, .ref rs, .ref rd, .ref rk, .ref rh, .int (iZ bP), .int (iZ (t : Int))])), (ri, .inl (cI, 6000, .inl (zA xi)))] sz) := by
  refine z_ofi (by decide) (Nat.le_of_ble_eq_true rfl) (Or.inl rfl) ?_
  intro p e s m args below meth c A Q E jA jK jret H locs jP jD jS ls jl
  obtain ⟨jx, jb, jrt, jml, jown, jts, jlk⟩ := E
  have jown : s.vm.findClass R_Mod = some m.cls := jown
  have hkk := numK_le hR.1 hR.2
  have hf := num_facts hR.1 hR.2
  have hnm : numM R1 = 2 * numT R1 - 2 - R1 := rfl
  have hnb := nbI_b xi (8 * go.toNat + t) (numK R1)
  have hct : (2 : Int) ^ numK R1 = numT R1 := rfl
  have jl : lv_has ls 7 [(0, .ref r), (1, .int (iZ R1))] := jl
  refine lv_iload_n jx jb d_Mod_takeNumber_0 rfl (lv_at jl 1 rfl) ?_
  refine z_backe (va_runS (As := [.int (iZ R1)]) (rest := []) ⟨jx, jb, jml, jown, jts⟩ (c_M_bitsFor l D cI cB cZ R1 (by first | assumption | omega)) (zc_S 1 jts cd_Mod_bitsFor lk_Mod_80 st_Mod_bitsFor in_Mod hd_Mod_bitsFor ⟨Nat.le_of_ble_eq_true rfl, Nat.le_of_ble_eq_true rfl⟩ rfl rfl) (z_preSR jK jP [] rfl) rfl rfl jl.1 rfl (lv_room (Nat.le_of_ble_eq_true rfl)) d_Mod_takeNumber_1 ⟨Nat.le_of_ble_eq_true rfl, Nat.le_of_ble_eq_true rfl⟩) ?_
  refine lv_istore_n (lv' := [(2, .int (iZ (numK R1 : Int))), (0, .ref r), (1, .int (iZ R1))]) jx jb d_Mod_takeNumber_4 rfl jl (by decide) rfl (fun ls jl => ?_)
  refine lv_iconst (v := iZ 1) jx jb d_Mod_takeNumber_5 rfl ?_
  refine lv_iload_n jx jb d_Mod_takeNumber_6 rfl (lv_at jl 0 rfl) ?_
  refine z_ishl jx jb d_Mod_takeNumber_7 (numK R1) (2 ^ (numK R1)) (rfl) (by omega) ?_
  refine z_top (numT R1) (Int.one_mul _) ?_
  refine lv_istore_n (lv' := [(3, .int (iZ (numT R1))), (2, .int (iZ (numK R1 : Int))), (0, .ref r), (1, .int (iZ R1))]) jx jb d_Mod_takeNumber_8 rfl jl (by decide) rfl (fun ls jl => ?_)
  refine lv_iconst (v := iZ 2) jx jb d_Mod_takeNumber_9 rfl ?_
  refine lv_iload_n jx jb d_Mod_takeNumber_10 rfl (lv_at jl 0 rfl) ?_
  refine z_imul jx jb d_Mod_takeNumber_11 ?_
  refine lv_iconst (v := iZ 2) jx jb d_Mod_takeNumber_12 rfl ?_
  refine z_isub jx jb d_Mod_takeNumber_13 ?_
  refine lv_iload_n jx jb d_Mod_takeNumber_14 rfl (lv_at jl 3 rfl) ?_
  refine z_isub jx jb d_Mod_takeNumber_15 ?_
  refine z_top (numM R1) (rfl) ?_
  refine lv_istore (lv' := [(4, .int (iZ (numM R1))), (3, .int (iZ (numT R1))), (2, .int (iZ (numK R1 : Int))), (0, .ref r), (1, .int (iZ R1))]) jx jb d_Mod_takeNumber_16 jl (by decide) rfl (fun ls jl => ?_)
  refine lv_aload_n jx jb d_Mod_takeNumber_18 rfl (lv_at jl 3 rfl) ?_
  refine lv_iload_n jx jb d_Mod_takeNumber_19 rfl (lv_at jl 2 rfl) ?_
  refine z_backi (wr := []) jP jD jS jA [0, 1] [] rfl rfl (by decide) (by decide) (va_runV (As := [.int (iZ (numK R1 : Int))]) (rest := []) ⟨jx, jb, jml, jown, jts⟩ (c_M_take l D cI cB cZ H.size r ri ro rc rp rs rd rk rh iL go oL o bP xi t (numK R1) (by first | assumption | omega) (by first | assumption | omega) (by first | assumption | omega) (by omega) (by omega)) (zc_V 1 jts cd_Mod_take lk_Mod_99 im_Mod_take se_Mod_take in_Mod hd_Mod_take ⟨Nat.le_of_ble_eq_true rfl, Nat.le_of_ble_eq_true rfl⟩ rfl rfl) (z_preV jK jP jD [0, 1] (by decide) rfl rfl rfl rfl) rfl rfl jl.1 rfl (lv_room (Nat.le_of_ble_eq_true rfl)) d_Mod_takeNumber_20 ⟨Nat.le_of_ble_eq_true rfl, Nat.le_of_ble_eq_true rfl⟩) (fun z20 u20 H locs hz20 jP jD jS => ?_)
  obtain ⟨bR1_20, rfl⟩ : ∃ z, z = u20 := ⟨_, rfl⟩
  have jP : va_P D classes [(r, .inr (4, [.ref ri, .int (iZ iL), .int (iZ go), .ref ro, .int (iZ oL), .ref rc, .int (iZ (o : Int)), .ref rp, .ref rs, .ref rd, .ref rk, .ref rh, .int (iZ bP), .int (iZ bR1_20)])), (ri, .inl (cI, 6000, .inl (zA xi)))] H := jP.sub [0, 1] rfl
  have jD : va_D A [(r, .inr (4, [.ref ri, .int (iZ iL), .int (iZ go), .ref ro, .int (iZ oL), .ref rc, .int (iZ (o : Int)), .ref rp, .ref rs, .ref rd, .ref rk, .ref rh, .int (iZ bP), .int (iZ bR1_20)])), (ri, .inl (cI, 6000, .inl (zA xi)))] := jD.sub [0, 1] (by decide) rfl
  rcases hz20 with ⟨rfl, hq20, hb20⟩ | ⟨rfl, hq20, hb20⟩
  ·
    subst hb20
    refine lv_istore (lv' := [(5, .int (iZ (-1))), (4, .int (iZ (numM R1))), (3, .int (iZ (numT R1))), (2, .int (iZ (numK R1 : Int))), (0, .ref r), (1, .int (iZ R1))]) jx jb d_Mod_takeNumber_23 jl (by decide) rfl (fun ls jl => ?_)
    refine lv_iload jx jb d_Mod_takeNumber_25 (lv_at jl 0 rfl) ?_
    refine lv_iconst (v := iZ (-1)) jx jb d_Mod_takeNumber_27 rfl ?_
    refine z_icmp_eq (tgt := 38) jx jb d_Mod_takeNumber_28 (by decide) ⟨⟨by decide, by decide⟩, ⟨by decide, by decide⟩⟩ (fun hc28 => ?_) (fun hc28 => ?_)
    ·
      refine lv_iload jx jb d_Mod_takeNumber_38 (lv_at jl 0 rfl) ?_
      exact jret _ _ _ ((t : Int)) _ _ (Or.inl rfl) (by first | exact ⟨(tk_0 (by omega)).symm, fun q => absurd rfl q, by omega, by omega⟩ | exact tk_m1 (tk_1 (by omega) hc35) (by omega) (by omega) (by omega)) (jP.sub [0, 1] rfl) (jD.sub [0, 1] (by decide) rfl) jS d_Mod_takeNumber_40
    ·
      exact absurd hc28 (by decide)
  ·
    obtain rfl : bR1_20 = ((t + numK R1 : Nat) : Int) := by omega
    refine lv_istore (lv' := [(5, .int (iZ (nbI xi (8 * go.toNat + t) (numK R1)))), (4, .int (iZ (numM R1))), (3, .int (iZ (numT R1))), (2, .int (iZ (numK R1 : Int))), (0, .ref r), (1, .int (iZ R1))]) jx jb d_Mod_takeNumber_23 jl (by decide) rfl (fun ls jl => ?_)
    refine lv_iload jx jb d_Mod_takeNumber_25 (lv_at jl 0 rfl) ?_
    refine lv_iconst (v := iZ (-1)) jx jb d_Mod_takeNumber_27 rfl ?_
    refine z_icmp_eq (tgt := 38) jx jb d_Mod_takeNumber_28 (by decide) ⟨⟨by omega, by omega⟩, ⟨by decide, by decide⟩⟩ (fun hc28 => ?_) (fun hc28 => ?_)
    ·
      exfalso; omega
    ·
      refine lv_iload jx jb d_Mod_takeNumber_31 (lv_at jl 0 rfl) ?_
      refine lv_iload jx jb d_Mod_takeNumber_33 (lv_at jl 1 rfl) ?_
      refine z_icmp_ge (tgt := 41) jx jb d_Mod_takeNumber_35 (by decide) ⟨⟨by omega, by omega⟩, ⟨by omega, by omega⟩⟩ (fun hc35 => ?_) (fun hc35 => ?_)
      ·
        refine lv_aload_n jx jb d_Mod_takeNumber_41 rfl (lv_at jl 4 rfl) ?_
        refine lv_iconst (v := iZ 1) jx jb d_Mod_takeNumber_42 rfl ?_
        refine z_backi (wr := []) jP jD jS jA [0, 1] [] rfl rfl (by decide) (by decide) (va_runV (As := [.int (iZ 1)]) (rest := []) ⟨jx, jb, jml, jown, jts⟩ (c_M_take l D cI cB cZ H.size r ri ro rc rp rs rd rk rh iL go oL o bP xi (t + numK R1 : Nat) 1 (by first | assumption | omega) (by first | assumption | omega) (by first | assumption | omega) (by omega) (by decide)) (zc_V 1 jts cd_Mod_take lk_Mod_99 im_Mod_take se_Mod_take in_Mod hd_Mod_take ⟨Nat.le_of_ble_eq_true rfl, Nat.le_of_ble_eq_true rfl⟩ rfl rfl) (z_preV jK jP jD [0, 1] (by decide) rfl rfl rfl rfl) rfl rfl jl.1 rfl (lv_room (Nat.le_of_ble_eq_true rfl)) d_Mod_takeNumber_43 ⟨Nat.le_of_ble_eq_true rfl, Nat.le_of_ble_eq_true rfl⟩) (fun z43 u43 H locs hz43 jP jD jS => ?_)
        obtain ⟨bR1_43, rfl⟩ : ∃ z, z = u43 := ⟨_, rfl⟩
        have jP : va_P D classes [(r, .inr (4, [.ref ri, .int (iZ iL), .int (iZ go), .ref ro, .int (iZ oL), .ref rc, .int (iZ (o : Int)), .ref rp, .ref rs, .ref rd, .ref rk, .ref rh, .int (iZ bP), .int (iZ bR1_43)])), (ri, .inl (cI, 6000, .inl (zA xi)))] H := jP.sub [0, 1] rfl
        have jD : va_D A [(r, .inr (4, [.ref ri, .int (iZ iL), .int (iZ go), .ref ro, .int (iZ oL), .ref rc, .int (iZ (o : Int)), .ref rp, .ref rs, .ref rd, .ref rk, .ref rh, .int (iZ bP), .int (iZ bR1_43)])), (ri, .inl (cI, 6000, .inl (zA xi)))] := jD.sub [0, 1] (by decide) rfl
        rcases hz43 with ⟨rfl, hq43, hb43⟩ | ⟨rfl, hq43, hb43⟩
        ·
          subst hb43
          refine lv_istore (lv' := [(6, .int (iZ (-1))), (5, .int (iZ (nbI xi (8 * go.toNat + t) (numK R1)))), (4, .int (iZ (numM R1))), (3, .int (iZ (numT R1))), (2, .int (iZ (numK R1 : Int))), (0, .ref r), (1, .int (iZ R1))]) jx jb d_Mod_takeNumber_46 jl (by decide) rfl (fun ls jl => ?_)
          refine lv_iload jx jb d_Mod_takeNumber_48 (lv_at jl 0 rfl) ?_
          refine lv_iconst (v := iZ (-1)) jx jb d_Mod_takeNumber_50 rfl ?_
          refine z_icmp_ne (tgt := 58) jx jb d_Mod_takeNumber_51 (by decide) ⟨⟨by decide, by decide⟩, ⟨by decide, by decide⟩⟩ (fun hc51 => ?_) (fun hc51 => ?_)
          ·
            exact absurd hc51 (by decide)
          ·
            refine lv_iconst (v := iZ (-1)) jx jb d_Mod_takeNumber_54 rfl ?_
            refine lv_goto (tgt := 75) jx jb d_Mod_takeNumber_55 (by decide) ?_
            exact jret _ _ _ (((t + numK R1 : Nat) : Int)) _ _ (Or.inl rfl) (by first | exact ⟨(tk_2 (by omega) (by omega) (by omega)).symm, fun q => absurd rfl q, by omega, by omega⟩ | exact tk_m3 (tk_3 (by omega) (by omega) (by omega)) (by omega) (by omega) (by omega) | exact tk_m3 (tk_4 (by omega) (by omega) (by omega)) (by omega) (by omega) (by omega)) (jP.sub [0, 1] rfl) (jD.sub [0, 1] (by decide) rfl) jS d_Mod_takeNumber_75
        ·
          obtain rfl : bR1_43 = ((t + numK R1 + 1 : Nat) : Int) := by omega
          have hq1 : nbI xi (8 * go.toNat + (t + numK R1)) 1 = bt xi ((8 * go.toNat + t) + numK R1) := by rw [nbI_1, Nat.add_assoc]
          have hb01 := bt_01 xi ((8 * go.toNat + t) + numK R1)
          refine lv_istore (lv' := [(6, .int (iZ (nbI xi (8 * go.toNat + (t + numK R1 : Nat)) 1))), (5, .int (iZ (nbI xi (8 * go.toNat + t) (numK R1)))), (4, .int (iZ (numM R1))), (3, .int (iZ (numT R1))), (2, .int (iZ (numK R1 : Int))), (0, .ref r), (1, .int (iZ R1))]) jx jb d_Mod_takeNumber_46 jl (by decide) rfl (fun ls jl => ?_)
          refine lv_iload jx jb d_Mod_takeNumber_48 (lv_at jl 0 rfl) ?_
          refine lv_iconst (v := iZ (-1)) jx jb d_Mod_takeNumber_50 rfl ?_
          refine z_icmp_ne (tgt := 58) jx jb d_Mod_takeNumber_51 (by decide) ⟨⟨by omega, by omega⟩, ⟨by decide, by decide⟩⟩ (fun hc51 => ?_) (fun hc51 => ?_)
          ·
            refine lv_iload jx jb d_Mod_takeNumber_58 (lv_at jl 0 rfl) ?_
            refine z_if_ne (tgt := 68) jx jb d_Mod_takeNumber_60 (by decide) ⟨by omega, by omega⟩ (fun hc60 => ?_) (fun hc60 => ?_)
            ·
              refine lv_iload jx jb d_Mod_takeNumber_68 (lv_at jl 1 rfl) ?_
              refine lv_iload_n jx jb d_Mod_takeNumber_70 rfl (lv_at jl 3 rfl) ?_
              refine z_iadd jx jb d_Mod_takeNumber_71 ?_
              refine lv_iload jx jb d_Mod_takeNumber_72 (lv_at jl 2 rfl) ?_
              refine z_isub jx jb d_Mod_takeNumber_74 ?_
              exact jret _ _ _ (((t + numK R1 + 1 : Nat) : Int)) _ _ (Or.inl rfl) (by first | exact ⟨(tk_2 (by omega) (by omega) (by omega)).symm, fun q => absurd rfl q, by omega, by omega⟩ | exact tk_m3 (tk_3 (by omega) (by omega) (by omega)) (by omega) (by omega) (by omega) | exact tk_m3 (tk_4 (by omega) (by omega) (by omega)) (by omega) (by omega) (by omega)) (jP.sub [0, 1] rfl) (jD.sub [0, 1] (by decide) rfl) jS d_Mod_takeNumber_75
            ·
              refine lv_iload jx jb d_Mod_takeNumber_63 (lv_at jl 1 rfl) ?_
              refine lv_goto (tgt := 75) jx jb d_Mod_takeNumber_65 (by decide) ?_
              exact jret _ _ _ (((t + numK R1 + 1 : Nat) : Int)) _ _ (Or.inl rfl) (by first | exact ⟨(tk_2 (by omega) (by omega) (by omega)).symm, fun q => absurd rfl q, by omega, by omega⟩ | exact tk_m3 (tk_3 (by omega) (by omega) (by omega)) (by omega) (by omega) (by omega) | exact tk_m3 (tk_4 (by omega) (by omega) (by omega)) (by omega) (by omega) (by omega)) (jP.sub [0, 1] rfl) (jD.sub [0, 1] (by decide) rfl) jS d_Mod_takeNumber_75
          ·
            exfalso; omega
      ·
        refine lv_iload jx jb d_Mod_takeNumber_38 (lv_at jl 0 rfl) ?_
        exact jret _ _ _ (((t + numK R1 : Nat) : Int)) _ _ (Or.inl rfl) (by first | exact ⟨(tk_0 (by omega)).symm, fun q => absurd rfl q, by omega, by omega⟩ | exact tk_m1 (tk_1 (by omega) hc35) (by omega) (by omega) (by omega)) (jP.sub [0, 1] rfl) (jD.sub [0, 1] (by decide) rfl) jS d_Mod_takeNumber_40
abbrev rm_M_takeZeros : Room := { frames := 1, cells := 0, slots := 0, locals := 24 }
set_option maxHeartbeats 4000000 in
set_option maxRecDepth 100000 in
theorem c_M_takeZeros (l : Launch) (D : va_G) (cI cB cZ : ClassId) (sz : Nat) (r : Nat) (ri : Nat) (ro : Nat) (rc : Nat) (rp : Nat) (rs : Nat) (rd : Nat) (rk : Nat) (rh : Nat) (iL : Int) (go : Int) (oL : Int) (o : Nat) (bP : Int) (xi : Nat → Int) (t : Nat) (x : Nat) (y : Nat) (hiL : 0 ≤ iL ∧ iL ≤ 6000) (hgo : 0 ≤ go ∧ go ≤ iL) (hxi : ∀ k, k < 6000 → 0 ≤ xi k ∧ xi k < 256) (ht : (t : Int) ≤ 8 * (iL - go)) (hy : x < y ∧ y ≤ 255) : Met l y_Mod_takeZeros (.code y_Mod_takeZeros b_Mod_takeZeros 6 (some .int) :: zT) rm_M_takeZeros (zPc D classes (TY cI cB cZ) [(r, .inr (4, [.ref ri, .int (iZ iL), .int (iZ go), .ref ro, .int (iZ oL), .ref rc, .int (iZ (o : Int)), .ref rp, .ref rs, .ref rd, .ref rk, .ref rh, .int (iZ bP), .int (iZ (t : Int))])), (ri, .inl (cI, 6000, .inl (zA xi)))] sz [.ref r, .int (iZ (x : Int)), .int (iZ (y : Int))]) (zFi (S := Int) D classes (fun z u => z = bzM y (bz xi (8 * go.toNat) (8 * (iL - go)) y 256 t (x + 1)).1 ∧ (0 ≤ z → u = ((bz xi (8 * go.toNat) (8 * (iL - go)) y 256 t (x + 1)).2 : Int) ∧ u ≤ 8 * (iL - go) ∧ x ≤ z ∧ z < y)) (fun u => [(r, .inr (4, [.ref ri, .int (iZ iL), .int (iZ go), .ref ro, .int (iZ oL), .ref rc, .int (iZ (o : Int)), .ref rp, .ref rs, .ref rd, .ref rk, .ref rh, .int (iZ bP), .int (iZ u)])), (ri, .inl (cI, 6000, .inl (zA xi)))]) (va_A [(r, .inr (4, [.ref ri, .int (iZ iL), .int (iZ go), .ref ro, .int (iZ oL), .ref rc, .int (iZ (o : Int)), .ref rp, .ref rs, .ref rd, .ref rk, .ref rh, .int (iZ bP), .int (iZ (t : Int))])), (ri, .inl (cI, 6000, .inl (zA xi)))] sz)) 0 0 (va_A [(r, .inr (4, [.ref ri, .int (iZ iL), .int (iZ go), .ref ro, .int (iZ oL), .ref rc, .int (iZ (o : Int)), .ref rp, .ref rs, .ref rd, .ref rk, .ref rh, .int (iZ bP), .int (iZ (t : Int))])), (ri, .inl (cI, 6000, .inl (zA xi)))] sz) := by
  refine z_ofi (by decide) (Nat.le_of_ble_eq_true rfl) (Or.inl rfl) ?_
  intro p e s m args below meth c A Q E jA jK jret H locs jP jD jS ls jl
  obtain ⟨jx, jb, jrt, jml, jown, jts, jlk⟩ := E
  have jown : s.vm.findClass R_Mod = some m.cls := jown
  have jl : lv_has ls 6 [(0, .ref r), (1, .int (iZ (x : Int))), (2, .int (iZ (y : Int)))] := jl
  refine lv_iload_n jx jb d_Mod_takeZeros_0 rfl (lv_at jl 1 rfl) ?_
  refine z_top (((x + 1 : Nat) : Int) - 1) (by omega) ?_
  refine lv_istore_n (lv' := [(3, .int (iZ (((x + 1 : Nat) : Int) - 1))), (0, .ref r), (1, .int (iZ (x : Int))), (2, .int (iZ (y : Int)))]) jx jb d_Mod_takeZeros_1 rfl jl (by decide) rfl (fun ls jl => ?_)
  refine lv_iconst (v := iZ 0) jx jb d_Mod_takeZeros_2 rfl ?_
  refine lv_istore (lv' := [(4, .int (iZ 0)), (3, .int (iZ (((x + 1 : Nat) : Int) - 1))), (0, .ref r), (1, .int (iZ (x : Int))), (2, .int (iZ (y : Int)))]) jx jb d_Mod_takeZeros_3 jl (by decide) rfl (fun ls jl => ?_)
  have hloop5 : ∀ (nF : Nat) (v : Nat) (t2 : Nat) (i : Nat), 300 - v < nF → (3 * i + x + 1 ≤ v ∧ v ≤ y) → ((t2 : Int) ≤ 8 * (iL - go)) → (bzR xi (8 * go.toNat) (8 * (iL - go)) y (bz xi (8 * go.toNat) (8 * (iL - go)) y 256 t (x + 1)) t2 v) → ∀ (H : Heap) (locs : List Loc), va_P D classes [(r, .inr (4, [.ref ri, .int (iZ iL), .int (iZ go), .ref ro, .int (iZ oL), .ref rc, .int (iZ (o : Int)), .ref rp, .ref rs, .ref rd, .ref rk, .ref rh, .int (iZ bP), .int (iZ (t2 : Int))])), (ri, .inl (cI, 6000, .inl (zA xi)))] H → va_D A [(r, .inr (4, [.ref ri, .int (iZ iL), .int (iZ go), .ref ro, .int (iZ oL), .ref rc, .int (iZ (o : Int)), .ref rp, .ref rs, .ref rd, .ref rk, .ref rh, .int (iZ bP), .int (iZ (t2 : Int))])), (ri, .inl (cI, 6000, .inl (zA xi)))] → va_S A s.heap H locs → ∀ ls : Array Slot, lv_has ls 6 [(0, .ref r), (1, .int (iZ (x : Int))), (2, .int (iZ (y : Int))), (3, .int (iZ ((v : Int) - 1))), (4, .int (iZ (i : Int)))] → W p l e rm_M_takeZeros s m args below meth c H locs 0 0 Q (F0 m 5 ls []) := by
    intro nF
    induction nF with
    | zero => intro v t2 i hm; exact absurd hm (Nat.not_lt_zero _)
    | succ nF ih5 =>
      intro v t2 i hm hv ht2 hR H locs jP jD jS ls jl
      refine lv_iload jx jb d_Mod_takeZeros_5 (lv_at jl 4 rfl) ?_
      refine lv_sipush (v := iZ 300) jx jb d_Mod_takeZeros_7 (by decide) ?_
      refine z_icmp_ge (tgt := 56) jx jb d_Mod_takeZeros_10 (by decide) ⟨⟨by omega, by omega⟩, ⟨by decide, by decide⟩⟩ (fun hc10 => ?_) (fun hc10 => ?_)
      ·
        exfalso; omega
      ·
        refine lv_aload_n jx jb d_Mod_takeZeros_13 rfl (lv_at jl 0 rfl) ?_
        refine lv_iconst (v := iZ 2) jx jb d_Mod_takeZeros_14 rfl ?_
        refine z_backi (wr := []) jP jD jS jA [0, 1] [] rfl rfl (by decide) (by decide) (va_runV (As := [.int (iZ 2)]) (rest := []) ⟨jx, jb, jml, jown, jts⟩ (c_M_take l D cI cB cZ H.size r ri ro rc rp rs rd rk rh iL go oL o bP xi t2 2 (by first | assumption | omega) (by first | assumption | omega) (by first | assumption | omega) (by omega) (by decide)) (zc_V 1 jts cd_Mod_take lk_Mod_99 im_Mod_take se_Mod_take in_Mod hd_Mod_take ⟨Nat.le_of_ble_eq_true rfl, Nat.le_of_ble_eq_true rfl⟩ rfl rfl) (z_preV jK jP jD [0, 1] (by decide) rfl rfl rfl rfl) rfl rfl jl.1 rfl (lv_room (Nat.le_of_ble_eq_true rfl)) d_Mod_takeZeros_15 ⟨Nat.le_of_ble_eq_true rfl, Nat.le_of_ble_eq_true rfl⟩) (fun z15 u15 H locs hz15 jP jD jS => ?_)
        obtain ⟨bR1_15, rfl⟩ : ∃ z, z = u15 := ⟨_, rfl⟩
        have jP : va_P D classes [(r, .inr (4, [.ref ri, .int (iZ iL), .int (iZ go), .ref ro, .int (iZ oL), .ref rc, .int (iZ (o : Int)), .ref rp, .ref rs, .ref rd, .ref rk, .ref rh, .int (iZ bP), .int (iZ bR1_15)])), (ri, .inl (cI, 6000, .inl (zA xi)))] H := jP.sub [0, 1] rfl
        have jD : va_D A [(r, .inr (4, [.ref ri, .int (iZ iL), .int (iZ go), .ref ro, .int (iZ oL), .ref rc, .int (iZ (o : Int)), .ref rp, .ref rs, .ref rd, .ref rk, .ref rh, .int (iZ bP), .int (iZ bR1_15)])), (ri, .inl (cI, 6000, .inl (zA xi)))] := jD.sub [0, 1] (by decide) rfl
        rcases hz15 with ⟨rfl, hq15, hb15⟩ | ⟨rfl, hq15, hb15⟩
        ·
          subst hb15
          refine lv_istore (lv' := [(5, .int (iZ (-1))), (0, .ref r), (1, .int (iZ (x : Int))), (2, .int (iZ (y : Int))), (3, .int (iZ ((v : Int) - 1))), (4, .int (iZ (i : Int)))]) jx jb d_Mod_takeZeros_18 jl (by decide) rfl (fun ls jl => ?_)
          refine lv_iload jx jb d_Mod_takeZeros_20 (lv_at jl 0 rfl) ?_
          refine lv_iconst (v := iZ (-1)) jx jb d_Mod_takeZeros_22 rfl ?_
          refine z_icmp_ne (tgt := 29) jx jb d_Mod_takeZeros_23 (by decide) ⟨⟨by decide, by decide⟩, ⟨by decide, by decide⟩⟩ (fun hc23 => ?_) (fun hc23 => ?_)
          ·
            exact absurd hc23 (by decide)
          ·
            refine lv_bipush (v := iZ (-3)) jx jb d_Mod_takeZeros_26 (by decide) ?_
            exact jret _ _ _ ((t2 : Int)) _ _ (Or.inl rfl) (bz_m3 (bzR_lack hR hy.2 (by omega) (by omega))) (jP.sub [0, 1] rfl) (jD.sub [0, 1] (by decide) rfl) jS d_Mod_takeZeros_28
        ·
          obtain rfl : bR1_15 = ((t2 + 2 : Nat) : Int) := by omega
          have hnb := nbI_b xi (8 * go.toNat + t2) 2
          have hbb := hR
          refine lv_istore (lv' := [(5, .int (iZ (nbI xi (8 * go.toNat + t2) 2))), (0, .ref r), (1, .int (iZ (x : Int))), (2, .int (iZ (y : Int))), (3, .int (iZ ((v : Int) - 1))), (4, .int (iZ (i : Int)))]) jx jb d_Mod_takeZeros_18 jl (by decide) rfl (fun ls jl => ?_)
          refine lv_iload jx jb d_Mod_takeZeros_20 (lv_at jl 0 rfl) ?_
          refine lv_iconst (v := iZ (-1)) jx jb d_Mod_takeZeros_22 rfl ?_
          refine z_icmp_ne (tgt := 29) jx jb d_Mod_takeZeros_23 (by decide) ⟨⟨by omega, by omega⟩, ⟨by decide, by decide⟩⟩ (fun hc23 => ?_) (fun hc23 => ?_)
          ·
            refine lv_iload_n jx jb d_Mod_takeZeros_29 rfl (lv_at jl 4 rfl) ?_
            refine lv_iload jx jb d_Mod_takeZeros_30 (lv_at jl 0 rfl) ?_
            refine z_iadd jx jb d_Mod_takeZeros_32 ?_
            refine lv_istore_n (lv' := [(3, .int (iZ (((v : Int) - 1) + (nbI xi (8 * go.toNat + t2) 2)))), (5, .int (iZ (nbI xi (8 * go.toNat + t2) 2))), (0, .ref r), (1, .int (iZ (x : Int))), (2, .int (iZ (y : Int))), (4, .int (iZ (i : Int)))]) jx jb d_Mod_takeZeros_33 rfl jl (by decide) rfl (fun ls jl => ?_)
            refine lv_iload_n jx jb d_Mod_takeZeros_34 rfl (lv_at jl 0 rfl) ?_
            refine lv_iload_n jx jb d_Mod_takeZeros_35 rfl (lv_at jl 4 rfl) ?_
            refine z_icmp_lt (tgt := 42) jx jb d_Mod_takeZeros_36 (by decide) ⟨⟨by omega, by omega⟩, ⟨by omega, by omega⟩⟩ (fun hc36 => ?_) (fun hc36 => ?_)
            ·
              refine lv_iload jx jb d_Mod_takeZeros_42 (lv_at jl 1 rfl) ?_
              refine lv_iconst (v := iZ 3) jx jb d_Mod_takeZeros_44 rfl ?_
              refine z_icmp_ge (tgt := 50) jx jb d_Mod_takeZeros_45 (by decide) ⟨⟨by omega, by omega⟩, ⟨by decide, by decide⟩⟩ (fun hc45 => ?_) (fun hc45 => ?_)
              ·
                have hn3 : nbI xi (8 * go.toNat + t2) 2 = 3 := by omega
                rw [hn3, show (v : Int) - 1 + 3 = ((v + 3 : Nat) : Int) - 1 by omega] at jl
                refine lv_iinc (v := iZ ((i : Int) + 1)) (lv' := [(4, .int (iZ ((i : Int) + 1))), (3, .int (iZ (((v + 3 : Nat) : Int) - 1))), (5, .int (iZ 3)), (0, .ref r), (1, .int (iZ (x : Int))), (2, .int (iZ (y : Int)))]) jx jb d_Mod_takeZeros_50 jl (k := 5) rfl (iZ_add _ _) (by decide) rfl (fun ls jl => ?_)
                refine lv_goto (tgt := 5) jx jb d_Mod_takeZeros_53 (by decide) ?_
                exact ih5 (v + 3) (t2 + 2) (i + 1) (by omega) (by omega) (by omega) (bzR_go hR hy.2 (by omega) (by omega) (by omega)) _ _ (jP.sub [0, 1] rfl) (jD.sub [0, 1] (by decide) rfl) jS _ (lv_sub jl [3, 4, 5, 1, 0] rfl)
              ·
                refine lv_iload_n jx jb d_Mod_takeZeros_48 rfl (lv_at jl 0 rfl) ?_
                exact jret _ _ _ (((t2 + 2 : Nat) : Int)) _ _ (Or.inl rfl) (bz_m0 (bzR_ret hR hy.2 (by omega) (by omega) (by omega)) (by omega) (by omega) (by omega) (by omega)) (jP.sub [0, 1] rfl) (jD.sub [0, 1] (by decide) rfl) jS d_Mod_takeZeros_49
            ·
              refine lv_bipush (v := iZ (-2)) jx jb d_Mod_takeZeros_39 (by decide) ?_
              exact jret _ _ _ (((t2 + 2 : Nat) : Int)) _ _ (Or.inl rfl) ((by omega : nbI xi (8 * go.toNat + t2) 2 < 3 ∨ 3 ≤ nbI xi (8 * go.toNat + t2) 2).elim (fun q => bz_m2 (bzR_ret hR hy.2 (by omega) (by omega) q) (by omega)) (fun q => bz_m2 (bzR_out (bzR_go hR hy.2 (by omega) (by omega) q) (by omega)) (by omega))) (jP.sub [0, 1] rfl) (jD.sub [0, 1] (by decide) rfl) jS d_Mod_takeZeros_41
          ·
            exfalso; omega
  exact hloop5 ((300 - (x + 1)) + 1) (x + 1) t 0 (Nat.lt_succ_self _) (by omega) (by first | assumption | omega) (bzR_0) _ _ (jP.sub [0, 1] rfl) (jD.sub [0, 1] (by decide) rfl) jS _ (lv_sub jl [2, 3, 4, 1, 0] rfl)
