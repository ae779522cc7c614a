
theorem d_SC_isSymbol_0 : decode b_SC_isSymbol 0 = .ok (.iload_n 0, 1) := by decide +kernel
theorem d_SC_isSymbol_1 : decode b_SC_isSymbol 1 = .ok (.ifCond .lt 14, 3) := by decide +kernel
theorem d_SC_isSymbol_4 : decode b_SC_isSymbol 4 = .ok (.iload_n 0, 1) := by decide +kernel
theorem d_SC_isSymbol_5 : decode b_SC_isSymbol 5 = .ok (.sipush 256, 3) := by decide +kernel
theorem d_SC_isSymbol_8 : decode b_SC_isSymbol 8 = .ok (.if_icmp .ge 7, 3) := by decide +kernel
theorem d_SC_isSymbol_11 : decode b_SC_isSymbol 11 = .ok (.iconst 1, 1) := by decide +kernel
theorem d_SC_isSymbol_12 : decode b_SC_isSymbol 12 = .ok (.goto 4, 3) := by decide +kernel
theorem d_SC_isSymbol_15 : decode b_SC_isSymbol 15 = .ok (.iconst 0, 1) := by decide +kernel
theorem d_SC_isSymbol_16 : decode b_SC_isSymbol 16 = .ok (.ireturn, 1) := by decide +kernel
theorem d_SC_isOrder_0 : decode b_SC_isOrder 0 = .ok (.iload_n 0, 1) := by decide +kernel
theorem d_SC_isOrder_1 : decode b_SC_isOrder 1 = .ok (.iconst 5, 1) := by decide +kernel
theorem d_SC_isOrder_2 : decode b_SC_isOrder 2 = .ok (.if_icmp .lt 13, 3) := by decide +kernel
theorem d_SC_isOrder_5 : decode b_SC_isOrder 5 = .ok (.iload_n 0, 1) := by decide +kernel
theorem d_SC_isOrder_6 : decode b_SC_isOrder 6 = .ok (.bipush 12, 2) := by decide +kernel
theorem d_SC_isOrder_8 : decode b_SC_isOrder 8 = .ok (.if_icmp .gt 7, 3) := by decide +kernel
theorem d_SC_isOrder_11 : decode b_SC_isOrder 11 = .ok (.iconst 1, 1) := by decide +kernel
theorem d_SC_isOrder_12 : decode b_SC_isOrder 12 = .ok (.goto 4, 3) := by decide +kernel
theorem d_SC_isOrder_15 : decode b_SC_isOrder 15 = .ok (.iconst 0, 1) := by decide +kernel
theorem d_SC_isOrder_16 : decode b_SC_isOrder 16 = .ok (.ireturn, 1) := by decide +kernel
theorem d_SC_weight_0 : decode b_SC_weight 0 = .ok (.iload_n 0, 1) := by decide +kernel
theorem d_SC_weight_1 : decode b_SC_weight 1 = .ok (.iconst (-1), 1) := by decide +kernel
theorem d_SC_weight_2 : decode b_SC_weight 2 = .ok (.if_icmp .ne 7, 3) := by decide +kernel
theorem d_SC_weight_5 : decode b_SC_weight 5 = .ok (.iconst 1, 1) := by decide +kernel
theorem d_SC_weight_6 : decode b_SC_weight 6 = .ok (.goto 4, 3) := by decide +kernel
theorem d_SC_weight_9 : decode b_SC_weight 9 = .ok (.iload_n 0, 1) := by decide +kernel
theorem d_SC_weight_10 : decode b_SC_weight 10 = .ok (.ireturn, 1) := by decide +kernel
theorem d_SC_exponent_0 : decode b_SC_exponent 0 = .ok (.iconst 0, 1) := by decide +kernel
theorem d_SC_exponent_1 : decode b_SC_exponent 1 = .ok (.istore_n 1, 1) := by decide +kernel
theorem d_SC_exponent_2 : decode b_SC_exponent 2 = .ok (.iload_n 1, 1) := by decide +kernel
theorem d_SC_exponent_3 : decode b_SC_exponent 3 = .ok (.bipush 30, 2) := by decide +kernel
theorem d_SC_exponent_5 : decode b_SC_exponent 5 = .ok (.if_icmp .ge 17, 3) := by decide +kernel
theorem d_SC_exponent_8 : decode b_SC_exponent 8 = .ok (.iload_n 0, 1) := by decide +kernel
theorem d_SC_exponent_9 : decode b_SC_exponent 9 = .ok (.iload_n 1, 1) := by decide +kernel
theorem d_SC_exponent_10 : decode b_SC_exponent 10 = .ok (.iconst 1, 1) := by decide +kernel
theorem d_SC_exponent_11 : decode b_SC_exponent 11 = .ok (.iadd, 1) := by decide +kernel
theorem d_SC_exponent_12 : decode b_SC_exponent 12 = .ok (.ishr, 1) := by decide +kernel
theorem d_SC_exponent_13 : decode b_SC_exponent 13 = .ok (.ifCond .le 9, 3) := by decide +kernel
theorem d_SC_exponent_16 : decode b_SC_exponent 16 = .ok (.iinc 1 1, 3) := by decide +kernel
theorem d_SC_exponent_19 : decode b_SC_exponent 19 = .ok (.goto (-17), 3) := by decide +kernel
theorem d_SC_exponent_22 : decode b_SC_exponent 22 = .ok (.iload_n 1, 1) := by decide +kernel
theorem d_SC_exponent_23 : decode b_SC_exponent 23 = .ok (.ireturn, 1) := by decide +kernel
theorem d_Arrays_fill_0 : decode b_Arrays_fill 0 = .ok (.iconst 0, 1) := by decide +kernel
theorem d_Arrays_fill_1 : decode b_Arrays_fill 1 = .ok (.istore_n 2, 1) := by decide +kernel
theorem d_Arrays_fill_2 : decode b_Arrays_fill 2 = .ok (.aload_n 0, 1) := by decide +kernel
theorem d_Arrays_fill_3 : decode b_Arrays_fill 3 = .ok (.arraylength, 1) := by decide +kernel
theorem d_Arrays_fill_4 : decode b_Arrays_fill 4 = .ok (.istore_n 3, 1) := by decide +kernel
theorem d_Arrays_fill_5 : decode b_Arrays_fill 5 = .ok (.iload_n 2, 1) := by decide +kernel
theorem d_Arrays_fill_6 : decode b_Arrays_fill 6 = .ok (.iload_n 3, 1) := by decide +kernel
theorem d_Arrays_fill_7 : decode b_Arrays_fill 7 = .ok (.if_icmp .ge 13, 3) := by decide +kernel
theorem d_Arrays_fill_10 : decode b_Arrays_fill 10 = .ok (.aload_n 0, 1) := by decide +kernel
theorem d_Arrays_fill_11 : decode b_Arrays_fill 11 = .ok (.iload_n 2, 1) := by decide +kernel
theorem d_Arrays_fill_12 : decode b_Arrays_fill 12 = .ok (.iload_n 1, 1) := by decide +kernel
theorem d_Arrays_fill_13 : decode b_Arrays_fill 13 = .ok (.iastore, 1) := by decide +kernel
theorem d_Arrays_fill_14 : decode b_Arrays_fill 14 = .ok (.iinc 2 1, 3) := by decide +kernel
theorem d_Arrays_fill_17 : decode b_Arrays_fill 17 = .ok (.goto (-12), 3) := by decide +kernel
theorem d_Arrays_fill_20 : decode b_Arrays_fill 20 = .ok (.return_, 1) := by decide +kernel
abbrev rm_isSymbol : Room := { frames := 0, cells := 0, slots := 0, locals := 0 }
set_option maxHeartbeats 4000000 in
set_option maxRecDepth 100000 in
theorem c_isSymbol (l : Launch) (D : va_G) (cI cB cZ : ClassId) (x : Int) (hr : -2147483648 ≤ x ∧ x < 2147483648) : Met l y_SC_isSymbol (.code y_SC_isSymbol b_SC_isSymbol 1 (some .boolean) :: zT) rm_isSymbol (zRc D classes (TY cI cB cZ) [] [.int (iZ x)]) (zSi (fun z => (z = 1 ∧ 0 ≤ x ∧ x < 256) ∨ (z = 0 ∧ (x < 0 ∨ 256 ≤ x)))) 0 0 (fun _ => False) := by
  refine z_ofr (by decide) (Nat.le_of_ble_eq_true rfl) (Or.inr rfl) ?_
  intro p e s m args below meth c Q E jP jK jret ls jl
  obtain ⟨jx, jb, jrt, jml, jown, jts, jlk⟩ := E
  have jown : s.vm.findClass R_SC = some m.cls := jown
  have jl : lv_has ls 1 [(0, .int (iZ x))] := jl
  refine lv_iload_n jx jb d_SC_isSymbol_0 rfl (lv_at jl 0 rfl) ?_
  refine z_if_lt (tgt := 15) jx jb d_SC_isSymbol_1 (by decide) ⟨by omega, by omega⟩ (fun hc1 => ?_) (fun hc1 => ?_)
  ·
    refine lv_iconst (v := iZ 0) jx jb d_SC_isSymbol_15 rfl ?_
    exact jret _ _ _ (Or.inr (Or.inl rfl)) (by omega) d_SC_isSymbol_16
  ·
    refine lv_iload_n jx jb d_SC_isSymbol_4 rfl (lv_at jl 0 rfl) ?_
    refine lv_sipush (v := iZ 256) jx jb d_SC_isSymbol_5 (by decide) ?_
    refine z_icmp_ge (tgt := 15) jx jb d_SC_isSymbol_8 (by decide) ⟨⟨by omega, by omega⟩, ⟨by decide, by decide⟩⟩ (fun hc8 => ?_) (fun hc8 => ?_)
    ·
      refine lv_iconst (v := iZ 0) jx jb d_SC_isSymbol_15 rfl ?_
      exact jret _ _ _ (Or.inr (Or.inl rfl)) (by omega) d_SC_isSymbol_16
    ·
      refine lv_iconst (v := iZ 1) jx jb d_SC_isSymbol_11 rfl ?_
      refine lv_goto (tgt := 16) jx jb d_SC_isSymbol_12 (by decide) ?_
      exact jret _ _ _ (Or.inr (Or.inr rfl)) (by omega) d_SC_isSymbol_16
abbrev rm_isOrder : Room := { frames := 0, cells := 0, slots := 0, locals := 0 }
set_option maxHeartbeats 4000000 in
set_option maxRecDepth 100000 in
theorem c_isOrder (l : Launch) (D : va_G) (cI cB cZ : ClassId) (x : Int) (hr : -2147483648 ≤ x ∧ x < 2147483648) : Met l y_SC_isOrder (.code y_SC_isOrder b_SC_isOrder 1 (some .boolean) :: zT) rm_isOrder (zRc D classes (TY cI cB cZ) [] [.int (iZ x)]) (zSi (fun z => (z = 1 ∧ 5 ≤ x ∧ x ≤ 12) ∨ (z = 0 ∧ (x < 5 ∨ 12 < x)))) 0 0 (fun _ => False) := by
  refine z_ofr (by decide) (Nat.le_of_ble_eq_true rfl) (Or.inr rfl) ?_
  intro p e s m args below meth c Q E jP jK jret ls jl
  obtain ⟨jx, jb, jrt, jml, jown, jts, jlk⟩ := E
  have jown : s.vm.findClass R_SC = some m.cls := jown
  have jl : lv_has ls 1 [(0, .int (iZ x))] := jl
  refine lv_iload_n jx jb d_SC_isOrder_0 rfl (lv_at jl 0 rfl) ?_
  refine lv_iconst (v := iZ 5) jx jb d_SC_isOrder_1 rfl ?_
  refine z_icmp_lt (tgt := 15) jx jb d_SC_isOrder_2 (by decide) ⟨⟨by omega, by omega⟩, ⟨by decide, by decide⟩⟩ (fun hc2 => ?_) (fun hc2 => ?_)
  ·
    refine lv_iconst (v := iZ 0) jx jb d_SC_isOrder_15 rfl ?_
    exact jret _ _ _ (Or.inr (Or.inl rfl)) (by omega) d_SC_isOrder_16
  ·
    refine lv_iload_n jx jb d_SC_isOrder_5 rfl (lv_at jl 0 rfl) ?_
    refine lv_bipush (v := iZ 12) jx jb d_SC_isOrder_6 (by decide) ?_
    refine z_icmp_gt (tgt := 15) jx jb d_SC_isOrder_8 (by decide) ⟨⟨by omega, by omega⟩, ⟨by decide, by decide⟩⟩ (fun hc8 => ?_) (fun hc8 => ?_)
    ·
      refine lv_iconst (v := iZ 0) jx jb d_SC_isOrder_15 rfl ?_
      exact jret _ _ _ (Or.inr (Or.inl rfl)) (by omega) d_SC_isOrder_16
    ·
      refine lv_iconst (v := iZ 1) jx jb d_SC_isOrder_11 rfl ?_
      refine lv_goto (tgt := 16) jx jb d_SC_isOrder_12 (by decide) ?_
      exact jret _ _ _ (Or.inr (Or.inr rfl)) (by omega) d_SC_isOrder_16
abbrev rm_weight : Room := { frames := 0, cells := 0, slots := 0, locals := 0 }
set_option maxHeartbeats 4000000 in
set_option maxRecDepth 100000 in
theorem c_weight (l : Launch) (D : va_G) (cI cB cZ : ClassId) (x : Int) (hr : -2147483648 ≤ x ∧ x < 2147483648) : Met l y_SC_weight (.code y_SC_weight b_SC_weight 1 (some .int) :: zT) rm_weight (zRc D classes (TY cI cB cZ) [] [.int (iZ x)]) (zSi (fun z => z = wgt x)) 0 0 (fun _ => False) := by
  refine z_ofr (by decide) (Nat.le_of_ble_eq_true rfl) (Or.inl rfl) ?_
  intro p e s m args below meth c Q E jP jK jret ls jl
  obtain ⟨jx, jb, jrt, jml, jown, jts, jlk⟩ := E
  have jown : s.vm.findClass R_SC = some m.cls := jown
  have jl : lv_has ls 1 [(0, .int (iZ x))] := jl
  refine lv_iload_n jx jb d_SC_weight_0 rfl (lv_at jl 0 rfl) ?_
  refine lv_iconst (v := iZ (-1)) jx jb d_SC_weight_1 rfl ?_
  refine z_icmp_ne (tgt := 9) jx jb d_SC_weight_2 (by decide) ⟨⟨by omega, by omega⟩, ⟨by decide, by decide⟩⟩ (fun hc2 => ?_) (fun hc2 => ?_)
  ·
    refine lv_iload_n jx jb d_SC_weight_9 rfl (lv_at jl 0 rfl) ?_
    exact jret _ _ _ (Or.inl rfl) (by first | exact (if_pos hc2).symm | exact (if_neg hc2).symm) d_SC_weight_10
  ·
    refine lv_iconst (v := iZ 1) jx jb d_SC_weight_5 rfl ?_
    refine lv_goto (tgt := 10) jx jb d_SC_weight_6 (by decide) ?_
    exact jret _ _ _ (Or.inl rfl) (by first | exact (if_pos hc2).symm | exact (if_neg hc2).symm) d_SC_weight_10
abbrev rm_exponent : Room := { frames := 0, cells := 0, slots := 0, locals := 0 }
set_option maxHeartbeats 4000000 in
set_option maxRecDepth 100000 in
theorem c_exponent (l : Launch) (D : va_G) (cI cB cZ : ClassId) (x : Int) (hr : 0 < x ∧ x < 2147483648) : Met l y_SC_exponent (.code y_SC_exponent b_SC_exponent 2 (some .int) :: zT) rm_exponent (zRc D classes (TY cI cB cZ) [] [.int (iZ x)]) (zSi (fun z => z = (zlog x : Int))) 0 0 (fun _ => False) := by
  refine z_ofr (by decide) (Nat.le_of_ble_eq_true rfl) (Or.inl rfl) ?_
  intro p e s m args below meth c Q E jP jK jret ls jl
  obtain ⟨jx, jb, jrt, jml, jown, jts, jlk⟩ := E
  have jown : s.vm.findClass R_SC = some m.cls := jown
  have jl : lv_has ls 2 [(0, .int (iZ x))] := jl
  refine lv_iconst (v := iZ 0) jx jb d_SC_exponent_0 rfl ?_
  refine lv_istore_n (lv' := [(1, .int (iZ 0)), (0, .int (iZ x))]) jx jb d_SC_exponent_1 rfl jl (by decide) rfl (fun ls jl => ?_)
  have hloop2 : ∀ (nF : Nat) (k : Nat), 30 - k < nF → ((2 : Int) ^ k ≤ x) → (k ≤ 30) → ∀ ls : Array Slot, lv_has ls 2 [(0, .int (iZ x)), (1, .int (iZ (k : Int)))] → W p l e rm_exponent s m args below meth c s.heap [] 0 0 Q (F0 m 2 ls []) := by
    intro nF
    induction nF with
    | zero => intro k hm; exact absurd hm (Nat.not_lt_zero _)
    | succ nF ih2 =>
      intro k hm h1 h30 ls jl
      have hpk : (2 : Int) ^ (k + 1) = 2 ^ k * 2 := Int.pow_succ ..
      have hp0 : (0 : Int) < 2 ^ k := Int.pow_pos (by decide)
      have hpd : (0 : Int) < 2 ^ (k + 1) := Int.pow_pos (by decide)
      refine lv_iload_n jx jb d_SC_exponent_2 rfl (lv_at jl 1 rfl) ?_
      refine lv_bipush (v := iZ 30) jx jb d_SC_exponent_3 (by decide) ?_
      refine z_icmp_ge (tgt := 22) jx jb d_SC_exponent_5 (by decide) ⟨⟨by omega, by omega⟩, ⟨by decide, by decide⟩⟩ (fun hc5 => ?_) (fun hc5 => ?_)
      ·
        refine lv_iload_n jx jb d_SC_exponent_22 rfl (lv_at jl 1 rfl) ?_
        exact jret _ _ _ (Or.inl rfl) (by first | rw [zlog_e30 h1 (by omega) hr.2] | rw [zlog_ex h1 hc13]) d_SC_exponent_23
      ·
        refine lv_iload_n jx jb d_SC_exponent_8 rfl (lv_at jl 0 rfl) ?_
        refine lv_iload_n jx jb d_SC_exponent_9 rfl (lv_at jl 1 rfl) ?_
        refine lv_iconst (v := iZ 1) jx jb d_SC_exponent_10 rfl ?_
        refine z_iadd jx jb d_SC_exponent_11 ?_
        refine z_ishr jx jb d_SC_exponent_12 (k + 1) (2 ^ (k + 1)) (rfl) (by omega) ?_
        refine z_if_le (tgt := 22) jx jb d_SC_exponent_13 (by decide) ⟨by have := Int.ediv_nonneg (a := x) (b := 2 ^ (k + 1)) (by omega) (by omega); omega, by have := Int.ediv_le_self (a := x) (2 ^ (k + 1)) (by omega); omega⟩ (fun hc13 => ?_) (fun hc13 => ?_)
        ·
          refine lv_iload_n jx jb d_SC_exponent_22 rfl (lv_at jl 1 rfl) ?_
          exact jret _ _ _ (Or.inl rfl) (by first | rw [zlog_e30 h1 (by omega) hr.2] | rw [zlog_ex h1 hc13]) d_SC_exponent_23
        ·
          refine lv_iinc (v := iZ ((k : Int) + 1)) (lv' := [(1, .int (iZ ((k : Int) + 1))), (0, .int (iZ x))]) jx jb d_SC_exponent_16 jl (k := 1) rfl (iZ_add _ _) (by decide) rfl (fun ls jl => ?_)
          refine lv_goto (tgt := 2) jx jb d_SC_exponent_19 (by decide) ?_
          exact ih2 (k + 1) (by omega) (zlog_nx (by omega)) (by first | assumption | omega) _ (lv_sub jl [1, 0] rfl)
  exact hloop2 ((30 - 0) + 1) 0 (Nat.lt_succ_self _) (by rw [Int.pow_zero]; omega) (by first | assumption | omega) _ (lv_sub jl [1, 0] rfl)
abbrev rm_fill : Room := { frames := 0, cells := 0, slots := 0, locals := 0 }
set_option maxHeartbeats 4000000 in
set_option maxRecDepth 100000 in
theorem c_fill (l : Launch) (D : va_G) (cI cB cZ : ClassId) (sz : Nat) (q : Nat) (g1 : Nat → Int) (v : Int) (hv : -2147483648 ≤ v ∧ v < 2147483648) : Met l y_Arrays_fill (.code y_Arrays_fill b_Arrays_fill 4 none :: zT) rm_fill (zPc D classes (TY cI cB cZ) [(q, .inl (cI, 256, .inl (zA g1)))] sz [.ref q, .int (iZ v)]) (zFv (S := Unit) D classes (fun _u => True) (fun _u => [(q, .inl (cI, 256, .inl (zA (fun k => if k < 256 then v else g1 k))))]) (va_A [(q, .inl (cI, 256, .inl (zA g1)))] sz)) 0 0 (va_A [(q, .inl (cI, 256, .inl (zA g1)))] sz) := by
  refine z_ofv (by decide) (Nat.le_of_ble_eq_true rfl) rfl ?_
  intro p e s m args below meth c A Q E jmn jA jK jret H locs jP jD jS ls jl
  obtain ⟨jx, jb, jrt, jml, jown, jts, jlk⟩ := E
  have jown : s.vm.findClass R_Arrays = some m.cls := jown
  have jl : lv_has ls 4 [(0, .ref q), (1, .int (iZ v))] := jl
  refine lv_iconst (v := iZ 0) jx jb d_Arrays_fill_0 rfl ?_
  refine lv_istore_n (lv' := [(2, .int (iZ 0)), (0, .ref q), (1, .int (iZ v))]) jx jb d_Arrays_fill_1 rfl jl (by decide) rfl (fun ls jl => ?_)
  refine lv_aload_n jx jb d_Arrays_fill_2 rfl (lv_at jl 1 rfl) ?_
  refine va_alen (v := iZ 256) jx jb jK.1 jP 0 0 rfl rfl rfl d_Arrays_fill_3 ?_
  refine lv_istore_n (lv' := [(3, .int (iZ 256)), (2, .int (iZ 0)), (0, .ref q), (1, .int (iZ v))]) jx jb d_Arrays_fill_4 rfl jl (by decide) rfl (fun ls jl => ?_)
  have hloop5 : ∀ (nF : Nat) (i : Nat) (g2 : Nat → Int), 256 - i < nF → (i ≤ 256) → (g2 = fun k => if k < i then v else g1 k) → ∀ (H : Heap) (locs : List Loc), va_P D classes [(q, .inl (cI, 256, .inl (zA g2)))] H → va_D A [(q, .inl (cI, 256, .inl (zA g2)))] → va_S A s.heap H locs → ∀ ls : Array Slot, lv_has ls 4 [(0, .ref q), (1, .int (iZ v)), (2, .int (iZ (i : Int))), (3, .int (iZ 256))] → W p l e rm_fill s m args below meth c H locs 0 0 Q (F0 m 5 ls []) := by
    intro nF
    induction nF with
    | zero => intro i g2 hm; exact absurd hm (Nat.not_lt_zero _)
    | succ nF ih5 =>
      intro i g2 hm hi hg H locs jP jD jS ls jl
      refine lv_iload_n jx jb d_Arrays_fill_5 rfl (lv_at jl 2 rfl) ?_
      refine lv_iload_n jx jb d_Arrays_fill_6 rfl (lv_at jl 3 rfl) ?_
      refine z_icmp_ge (tgt := 20) jx jb d_Arrays_fill_7 (by decide) ⟨⟨by omega, by omega⟩, ⟨by decide, by decide⟩⟩ (fun hc7 => ?_) (fun hc7 => ?_)
      ·
        obtain rfl : i = 256 := by omega
        subst hg
        exact jret _ _ () _ _ (trivial) (jP.sub [0] rfl) (jD.sub [0] (by decide) rfl) jS d_Arrays_fill_20
      ·
        refine lv_aload_n jx jb d_Arrays_fill_10 rfl (lv_at jl 0 rfl) ?_
        refine lv_iload_n jx jb d_Arrays_fill_11 rfl (lv_at jl 2 rfl) ?_
        refine lv_iload_n jx jb d_Arrays_fill_12 rfl (lv_at jl 1 rfl) ?_
        refine z_iast jx jb jK.1 jP jD jS 0 0 rfl rfl i (by omega) d_Arrays_fill_13 (fun H locs jP jD jS => ?_)
        have jP : va_P D classes [(q, .inl (cI, 256, .inl (zA (zu g2 i v))))] H := jP
        have jD : va_D A [(q, .inl (cI, 256, .inl (zA (zu g2 i v))))] := jD
        refine lv_iinc (v := iZ ((i : Int) + 1)) (lv' := [(2, .int (iZ ((i : Int) + 1))), (0, .ref q), (1, .int (iZ v)), (3, .int (iZ 256))]) jx jb d_Arrays_fill_14 jl (k := 2) rfl (iZ_add _ _) (by decide) rfl (fun ls jl => ?_)
        refine lv_goto (tgt := 5) jx jb d_Arrays_fill_17 (by decide) ?_
        exact ih5 (i + 1) (zu g2 i v) (by omega) (by first | assumption | omega) (by rw [hg, fill_s]) _ _ (jP.sub [0] rfl) (jD.sub [0] (by decide) rfl) jS _ (lv_sub jl [1, 2, 0, 3] rfl)
  exact hloop5 ((256 - 0) + 1) 0 g1 (Nat.lt_succ_self _) (by first | assumption | omega) (fill_0) _ _ (jP.sub [0] rfl) (jD.sub [0] (by decide) rfl) jS _ (lv_sub jl [2, 3, 1, 0] rfl)
