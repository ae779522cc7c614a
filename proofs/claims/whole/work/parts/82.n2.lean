theorem lk_Mod_1 : Cond.methodLink R_Mod 1 objectInit ∈ zT := zT_of (List.mem_of_getElem? (i := 481) (by decide +kernel)) rfl
theorem fl_Mod_28 : Cond.fieldLink R_Mod 28 "StateCoderModel" "cutOff" "[I" ∈ zT := zT_of (List.mem_of_getElem? (i := 492) (by decide +kernel)) rfl
theorem ac_boolean : Cond.arrayClass (newarray.typeOf .boolean) ∈ zT := zT_of (List.mem_of_getElem? (i := 525) (by decide +kernel)) rfl
theorem fl_Mod_31 : Cond.fieldLink R_Mod 31 "StateCoderModel" "had" "[Z" ∈ zT := zT_of (List.mem_of_getElem? (i := 493) (by decide +kernel)) rfl
theorem d_Mod_init_0 : decode b_Mod_init 0 = .ok (.aload_n 0, 1) := by decide +kernel
theorem d_Mod_init_1 : decode b_Mod_init 1 = .ok (.invokespecial 1, 3) := by decide +kernel
theorem d_Mod_init_4 : decode b_Mod_init 4 = .ok (.aload_n 0, 1) := by decide +kernel
theorem d_Mod_init_5 : decode b_Mod_init 5 = .ok (.sipush 6000, 3) := by decide +kernel
theorem d_Mod_init_8 : decode b_Mod_init 8 = .ok (.newarray .int, 2) := by decide +kernel
theorem d_Mod_init_10 : decode b_Mod_init 10 = .ok (.putfield 7, 3) := by decide +kernel
theorem d_Mod_init_13 : decode b_Mod_init 13 = .ok (.aload_n 0, 1) := by decide +kernel
theorem d_Mod_init_14 : decode b_Mod_init 14 = .ok (.sipush 6000, 3) := by decide +kernel
theorem d_Mod_init_17 : decode b_Mod_init 17 = .ok (.newarray .int, 2) := by decide +kernel
theorem d_Mod_init_19 : decode b_Mod_init 19 = .ok (.putfield 13, 3) := by decide +kernel
theorem d_Mod_init_22 : decode b_Mod_init 22 = .ok (.aload_n 0, 1) := by decide +kernel
theorem d_Mod_init_23 : decode b_Mod_init 23 = .ok (.sipush 256, 3) := by decide +kernel
theorem d_Mod_init_26 : decode b_Mod_init 26 = .ok (.newarray .int, 2) := by decide +kernel
theorem d_Mod_init_28 : decode b_Mod_init 28 = .ok (.putfield 16, 3) := by decide +kernel
theorem d_Mod_init_31 : decode b_Mod_init 31 = .ok (.aload_n 0, 1) := by decide +kernel
theorem d_Mod_init_32 : decode b_Mod_init 32 = .ok (.sipush 256, 3) := by decide +kernel
theorem d_Mod_init_35 : decode b_Mod_init 35 = .ok (.newarray .int, 2) := by decide +kernel
theorem d_Mod_init_37 : decode b_Mod_init 37 = .ok (.putfield 19, 3) := by decide +kernel
theorem d_Mod_init_40 : decode b_Mod_init 40 = .ok (.aload_n 0, 1) := by decide +kernel
theorem d_Mod_init_41 : decode b_Mod_init 41 = .ok (.sipush 4096, 3) := by decide +kernel
theorem d_Mod_init_44 : decode b_Mod_init 44 = .ok (.newarray .int, 2) := by decide +kernel
theorem d_Mod_init_46 : decode b_Mod_init 46 = .ok (.putfield 22, 3) := by decide +kernel
theorem d_Mod_init_49 : decode b_Mod_init 49 = .ok (.aload_n 0, 1) := by decide +kernel
theorem d_Mod_init_50 : decode b_Mod_init 50 = .ok (.sipush 256, 3) := by decide +kernel
theorem d_Mod_init_53 : decode b_Mod_init 53 = .ok (.newarray .int, 2) := by decide +kernel
theorem d_Mod_init_55 : decode b_Mod_init 55 = .ok (.putfield 25, 3) := by decide +kernel
theorem d_Mod_init_58 : decode b_Mod_init 58 = .ok (.aload_n 0, 1) := by decide +kernel
theorem d_Mod_init_59 : decode b_Mod_init 59 = .ok (.sipush 256, 3) := by decide +kernel
theorem d_Mod_init_62 : decode b_Mod_init 62 = .ok (.newarray .int, 2) := by decide +kernel
theorem d_Mod_init_64 : decode b_Mod_init 64 = .ok (.putfield 28, 3) := by decide +kernel
theorem d_Mod_init_67 : decode b_Mod_init 67 = .ok (.aload_n 0, 1) := by decide +kernel
theorem d_Mod_init_68 : decode b_Mod_init 68 = .ok (.sipush 256, 3) := by decide +kernel
theorem d_Mod_init_71 : decode b_Mod_init 71 = .ok (.newarray .boolean, 2) := by decide +kernel
theorem d_Mod_init_73 : decode b_Mod_init 73 = .ok (.putfield 31, 3) := by decide +kernel
theorem d_Mod_init_76 : decode b_Mod_init 76 = .ok (.return_, 1) := by decide +kernel
theorem d_Mod_takeBack_0 : decode b_Mod_takeBack 0 = .ok (.iconst 0, 1) := by decide +kernel
theorem d_Mod_takeBack_1 : decode b_Mod_takeBack 1 = .ok (.istore_n 2, 1) := by decide +kernel
theorem d_Mod_takeBack_2 : decode b_Mod_takeBack 2 = .ok (.iload_n 2, 1) := by decide +kernel
theorem d_Mod_takeBack_3 : decode b_Mod_takeBack 3 = .ok (.iload_n 1, 1) := by decide +kernel
theorem d_Mod_takeBack_4 : decode b_Mod_takeBack 4 = .ok (.if_icmp .ge 57, 3) := by decide +kernel
theorem d_Mod_takeBack_7 : decode b_Mod_takeBack 7 = .ok (.iconst 0, 1) := by decide +kernel
theorem d_Mod_takeBack_8 : decode b_Mod_takeBack 8 = .ok (.istore_n 3, 1) := by decide +kernel
theorem d_Mod_takeBack_9 : decode b_Mod_takeBack 9 = .ok (.iconst 1, 1) := by decide +kernel
theorem d_Mod_takeBack_10 : decode b_Mod_takeBack 10 = .ok (.istore 4, 2) := by decide +kernel
theorem d_Mod_takeBack_12 : decode b_Mod_takeBack 12 = .ok (.iload 4, 2) := by decide +kernel
theorem d_Mod_takeBack_14 : decode b_Mod_takeBack 14 = .ok (.sipush 256, 3) := by decide +kernel
theorem d_Mod_takeBack_17 : decode b_Mod_takeBack 17 = .ok (.if_icmp .ge 28, 3) := by decide +kernel
theorem d_Mod_takeBack_20 : decode b_Mod_takeBack 20 = .ok (.aload_n 0, 1) := by decide +kernel
theorem d_Mod_takeBack_21 : decode b_Mod_takeBack 21 = .ok (.getfield 25, 3) := by decide +kernel
theorem d_Mod_takeBack_24 : decode b_Mod_takeBack 24 = .ok (.iload 4, 2) := by decide +kernel
theorem d_Mod_takeBack_26 : decode b_Mod_takeBack 26 = .ok (.iaload, 1) := by decide +kernel
theorem d_Mod_takeBack_27 : decode b_Mod_takeBack 27 = .ok (.aload_n 0, 1) := by decide +kernel
theorem d_Mod_takeBack_28 : decode b_Mod_takeBack 28 = .ok (.getfield 25, 3) := by decide +kernel
theorem d_Mod_takeBack_31 : decode b_Mod_takeBack 31 = .ok (.iload_n 3, 1) := by decide +kernel
theorem d_Mod_takeBack_32 : decode b_Mod_takeBack 32 = .ok (.iaload, 1) := by decide +kernel
theorem d_Mod_takeBack_33 : decode b_Mod_takeBack 33 = .ok (.if_icmp .le 6, 3) := by decide +kernel
theorem d_Mod_takeBack_36 : decode b_Mod_takeBack 36 = .ok (.iload 4, 2) := by decide +kernel
theorem d_Mod_takeBack_38 : decode b_Mod_takeBack 38 = .ok (.istore_n 3, 1) := by decide +kernel
theorem d_Mod_takeBack_39 : decode b_Mod_takeBack 39 = .ok (.iinc 4 1, 3) := by decide +kernel
theorem d_Mod_takeBack_42 : decode b_Mod_takeBack 42 = .ok (.goto (-30), 3) := by decide +kernel
theorem d_Mod_takeBack_45 : decode b_Mod_takeBack 45 = .ok (.aload_n 0, 1) := by decide +kernel
theorem d_Mod_takeBack_46 : decode b_Mod_takeBack 46 = .ok (.getfield 25, 3) := by decide +kernel
theorem d_Mod_takeBack_49 : decode b_Mod_takeBack 49 = .ok (.iload_n 3, 1) := by decide +kernel
theorem d_Mod_takeBack_50 : decode b_Mod_takeBack 50 = .ok (.dup2, 1) := by decide +kernel
theorem d_Mod_takeBack_51 : decode b_Mod_takeBack 51 = .ok (.iaload, 1) := by decide +kernel
theorem d_Mod_takeBack_52 : decode b_Mod_takeBack 52 = .ok (.iconst 1, 1) := by decide +kernel
theorem d_Mod_takeBack_53 : decode b_Mod_takeBack 53 = .ok (.isub, 1) := by decide +kernel
theorem d_Mod_takeBack_54 : decode b_Mod_takeBack 54 = .ok (.iastore, 1) := by decide +kernel
theorem d_Mod_takeBack_55 : decode b_Mod_takeBack 55 = .ok (.iinc 2 1, 3) := by decide +kernel
theorem d_Mod_takeBack_58 : decode b_Mod_takeBack 58 = .ok (.goto (-56), 3) := by decide +kernel
theorem d_Mod_takeBack_61 : decode b_Mod_takeBack 61 = .ok (.return_, 1) := by decide +kernel
abbrev rm_M_init : Room := { frames := 1, cells := 8, slots := 17376, locals := 24 }
set_option maxHeartbeats 4000000 in
set_option maxRecDepth 100000 in
theorem c_M_init (l : Launch) (D : va_G) (cI cB cZ : ClassId) (sz : Nat) (r : Nat) : Met l y_Mod_init (.code y_Mod_init b_Mod_init 1 none :: zT) rm_M_init (zPc D classes (TY cI cB cZ) [(r, .inr (4, [.null, .int (iZ 0), .int (iZ 0), .null, .int (iZ 0), .null, .int (iZ 0), .null, .null, .null, .null, .null, .int (iZ 0), .int (iZ 0)]))] sz [.ref r]) (zFv (S := Nat × Nat × Nat × Nat × Nat × Nat × Nat × Nat) D classes (fun u => True) (fun u => [(r, .inr (4, [.ref u.1, .int (iZ 0), .int (iZ 0), .ref u.2.1, .int (iZ 0), .ref u.2.2.1, .int (iZ 0), .ref u.2.2.2.1, .ref u.2.2.2.2.1, .ref u.2.2.2.2.2.1, .ref u.2.2.2.2.2.2.1, .ref u.2.2.2.2.2.2.2, .int (iZ 0), .int (iZ 0)])), (u.1, .inl (cI, 6000, .inl (zA (fun _ => 0)))), (u.2.1, .inl (cI, 6000, .inl (zA (fun _ => 0)))), (u.2.2.1, .inl (cI, 256, .inl (zA (fun _ => 0)))), (u.2.2.2.1, .inl (cI, 256, .inl (zA (fun _ => 0)))), (u.2.2.2.2.1, .inl (cI, 4096, .inl (zA (fun _ => 0)))), (u.2.2.2.2.2.1, .inl (cI, 256, .inl (zA (fun _ => 0)))), (u.2.2.2.2.2.2.1, .inl (cI, 256, .inl (zA (fun _ => 0)))), (u.2.2.2.2.2.2.2, .inl (cZ, 256, .inl (zA (fun _ => 0))))]) (va_A [(r, .inr (4, [.null, .int (iZ 0), .int (iZ 0), .null, .int (iZ 0), .null, .int (iZ 0), .null, .null, .null, .null, .null, .int (iZ 0), .int (iZ 0)]))] sz)) 8 17376 (va_A [(r, .inr (4, [.null, .int (iZ 0), .int (iZ 0), .null, .int (iZ 0), .null, .int (iZ 0), .null, .null, .null, .null, .null, .int (iZ 0), .int (iZ 0)]))] sz) := by
  refine z_ofv (by decide) (Nat.le_of_ble_eq_true rfl) rfl ?_
  intro p e s m args below meth c A Q E jmn jA jK jret H locs jP jD jS ls jl
  obtain ⟨jx, jb, jrt, jml, jown, jts, jlk⟩ := E
  have jown : s.vm.findClass R_Mod = some m.cls := jown
  have jl : lv_has ls 1 [(0, .ref r)] := jl
  refine lv_aload_n jx jb d_Mod_init_0 rfl (lv_at jl 0 rfl) ?_
  refine W.objInit jx jb jown (jts _ lk_Mod_1) (jts _ im_objectInit) (jts _ cd_objectInit) rfl (by rw [jml]; exact jl.1) rfl d_Mod_init_1 (Nat.le_of_ble_eq_true rfl) (Nat.le_of_ble_eq_true rfl) ?_
  refine W.eq (g2 := F0 m 4 ls []) rfl ?_
  refine lv_aload_n jx jb d_Mod_init_4 rfl (lv_at jl 0 rfl) ?_
  refine lv_sipush (v := iZ 6000) jx jb d_Mod_init_5 (by decide) ?_
  refine z_newa jx jb (jts _ ac_int) rfl rfl rfl jK.1 jP jD jS jA 0 rfl 6000 ⟨rfl, by decide⟩ (Nat.le_of_ble_eq_true rfl) (Nat.le_of_ble_eq_true rfl) d_Mod_init_8 (fun y8 H jP jD jS => ?_)
  have jP : va_P D classes [(r, .inr (4, [.null, .int (iZ 0), .int (iZ 0), .null, .int (iZ 0), .null, .int (iZ 0), .null, .null, .null, .null, .null, .int (iZ 0), .int (iZ 0)])), (y8, .inl (cI, 6000, .inl (zA (fun _ => 0))))] H := jP
  have jD : va_D A [(r, .inr (4, [.null, .int (iZ 0), .int (iZ 0), .null, .int (iZ 0), .null, .int (iZ 0), .null, .null, .null, .null, .null, .int (iZ 0), .int (iZ 0)])), (y8, .inl (cI, 6000, .inl (zA (fun _ => 0))))] := jD
  refine va_putF (D := D) (ci := 4) (v := .ref y8) (ty := (.array .int)) (C := R_Mod) (T := F_Mod) (N := 14) jx jb jts i_Mod t_Mod t_Mod_ok n_Mod jown jK.1 jP jD jS 0 rfl rfl 0 (by decide) (jts _ fl_Mod_7) (fun _ h9 => h9) rfl jmn rfl (by decide +kernel) rfl rfl (Nat.le_of_ble_eq_true rfl) d_Mod_init_10 (fun H locs jP jD jS => ?_)
  have jP : va_P D classes [(r, .inr (4, [.ref y8, .int (iZ 0), .int (iZ 0), .null, .int (iZ 0), .null, .int (iZ 0), .null, .null, .null, .null, .null, .int (iZ 0), .int (iZ 0)])), (y8, .inl (cI, 6000, .inl (zA (fun _ => 0))))] H := jP
  have jD : va_D A [(r, .inr (4, [.ref y8, .int (iZ 0), .int (iZ 0), .null, .int (iZ 0), .null, .int (iZ 0), .null, .null, .null, .null, .null, .int (iZ 0), .int (iZ 0)])), (y8, .inl (cI, 6000, .inl (zA (fun _ => 0))))] := jD
  refine lv_aload_n jx jb d_Mod_init_13 rfl (lv_at jl 0 rfl) ?_
  refine lv_sipush (v := iZ 6000) jx jb d_Mod_init_14 (by decide) ?_
  refine z_newa jx jb (jts _ ac_int) rfl rfl rfl jK.1 jP jD jS jA 0 rfl 6000 ⟨rfl, by decide⟩ (Nat.le_of_ble_eq_true rfl) (Nat.le_of_ble_eq_true rfl) d_Mod_init_17 (fun y17 H jP jD jS => ?_)
  have jP : va_P D classes [(r, .inr (4, [.ref y8, .int (iZ 0), .int (iZ 0), .null, .int (iZ 0), .null, .int (iZ 0), .null, .null, .null, .null, .null, .int (iZ 0), .int (iZ 0)])), (y8, .inl (cI, 6000, .inl (zA (fun _ => 0)))), (y17, .inl (cI, 6000, .inl (zA (fun _ => 0))))] H := jP
  have jD : va_D A [(r, .inr (4, [.ref y8, .int (iZ 0), .int (iZ 0), .null, .int (iZ 0), .null, .int (iZ 0), .null, .null, .null, .null, .null, .int (iZ 0), .int (iZ 0)])), (y8, .inl (cI, 6000, .inl (zA (fun _ => 0)))), (y17, .inl (cI, 6000, .inl (zA (fun _ => 0))))] := jD
  refine va_putF (D := D) (ci := 4) (v := .ref y17) (ty := (.array .int)) (C := R_Mod) (T := F_Mod) (N := 14) jx jb jts i_Mod t_Mod t_Mod_ok n_Mod jown jK.1 jP jD jS 0 rfl rfl 3 (by decide) (jts _ fl_Mod_13) (fun _ h9 => h9) rfl jmn rfl (by decide +kernel) rfl rfl (Nat.le_of_ble_eq_true rfl) d_Mod_init_19 (fun H locs jP jD jS => ?_)
  have jP : va_P D classes [(r, .inr (4, [.ref y8, .int (iZ 0), .int (iZ 0), .ref y17, .int (iZ 0), .null, .int (iZ 0), .null, .null, .null, .null, .null, .int (iZ 0), .int (iZ 0)])), (y8, .inl (cI, 6000, .inl (zA (fun _ => 0)))), (y17, .inl (cI, 6000, .inl (zA (fun _ => 0))))] H := jP
  have jD : va_D A [(r, .inr (4, [.ref y8, .int (iZ 0), .int (iZ 0), .ref y17, .int (iZ 0), .null, .int (iZ 0), .null, .null, .null, .null, .null, .int (iZ 0), .int (iZ 0)])), (y8, .inl (cI, 6000, .inl (zA (fun _ => 0)))), (y17, .inl (cI, 6000, .inl (zA (fun _ => 0))))] := jD
  refine lv_aload_n jx jb d_Mod_init_22 rfl (lv_at jl 0 rfl) ?_
  refine lv_sipush (v := iZ 256) jx jb d_Mod_init_23 (by decide) ?_
  refine z_newa jx jb (jts _ ac_int) rfl rfl rfl jK.1 jP jD jS jA 0 rfl 256 ⟨rfl, by decide⟩ (Nat.le_of_ble_eq_true rfl) (Nat.le_of_ble_eq_true rfl) d_Mod_init_26 (fun y26 H jP jD jS => ?_)
  have jP : va_P D classes [(r, .inr (4, [.ref y8, .int (iZ 0), .int (iZ 0), .ref y17, .int (iZ 0), .null, .int (iZ 0), .null, .null, .null, .null, .null, .int (iZ 0), .int (iZ 0)])), (y8, .inl (cI, 6000, .inl (zA (fun _ => 0)))), (y17, .inl (cI, 6000, .inl (zA (fun _ => 0)))), (y26, .inl (cI, 256, .inl (zA (fun _ => 0))))] H := jP
  have jD : va_D A [(r, .inr (4, [.ref y8, .int (iZ 0), .int (iZ 0), .ref y17, .int (iZ 0), .null, .int (iZ 0), .null, .null, .null, .null, .null, .int (iZ 0), .int (iZ 0)])), (y8, .inl (cI, 6000, .inl (zA (fun _ => 0)))), (y17, .inl (cI, 6000, .inl (zA (fun _ => 0)))), (y26, .inl (cI, 256, .inl (zA (fun _ => 0))))] := jD
  refine va_putF (D := D) (ci := 4) (v := .ref y26) (ty := (.array .int)) (C := R_Mod) (T := F_Mod) (N := 14) jx jb jts i_Mod t_Mod t_Mod_ok n_Mod jown jK.1 jP jD jS 0 rfl rfl 5 (by decide) (jts _ fl_Mod_16) (fun _ h9 => h9) rfl jmn rfl (by decide +kernel) rfl rfl (Nat.le_of_ble_eq_true rfl) d_Mod_init_28 (fun H locs jP jD jS => ?_)
  have jP : va_P D classes [(r, .inr (4, [.ref y8, .int (iZ 0), .int (iZ 0), .ref y17, .int (iZ 0), .ref y26, .int (iZ 0), .null, .null, .null, .null, .null, .int (iZ 0), .int (iZ 0)])), (y8, .inl (cI, 6000, .inl (zA (fun _ => 0)))), (y17, .inl (cI, 6000, .inl (zA (fun _ => 0)))), (y26, .inl (cI, 256, .inl (zA (fun _ => 0))))] H := jP
  have jD : va_D A [(r, .inr (4, [.ref y8, .int (iZ 0), .int (iZ 0), .ref y17, .int (iZ 0), .ref y26, .int (iZ 0), .null, .null, .null, .null, .null, .int (iZ 0), .int (iZ 0)])), (y8, .inl (cI, 6000, .inl (zA (fun _ => 0)))), (y17, .inl (cI, 6000, .inl (zA (fun _ => 0)))), (y26, .inl (cI, 256, .inl (zA (fun _ => 0))))] := jD
  refine lv_aload_n jx jb d_Mod_init_31 rfl (lv_at jl 0 rfl) ?_
  refine lv_sipush (v := iZ 256) jx jb d_Mod_init_32 (by decide) ?_
  refine z_newa jx jb (jts _ ac_int) rfl rfl rfl jK.1 jP jD jS jA 0 rfl 256 ⟨rfl, by decide⟩ (Nat.le_of_ble_eq_true rfl) (Nat.le_of_ble_eq_true rfl) d_Mod_init_35 (fun y35 H jP jD jS => ?_)
  have jP : va_P D classes [(r, .inr (4, [.ref y8, .int (iZ 0), .int (iZ 0), .ref y17, .int (iZ 0), .ref y26, .int (iZ 0), .null, .null, .null, .null, .null, .int (iZ 0), .int (iZ 0)])), (y8, .inl (cI, 6000, .inl (zA (fun _ => 0)))), (y17, .inl (cI, 6000, .inl (zA (fun _ => 0)))), (y26, .inl (cI, 256, .inl (zA (fun _ => 0)))), (y35, .inl (cI, 256, .inl (zA (fun _ => 0))))] H := jP
  have jD : va_D A [(r, .inr (4, [.ref y8, .int (iZ 0), .int (iZ 0), .ref y17, .int (iZ 0), .ref y26, .int (iZ 0), .null, .null, .null, .null, .null, .int (iZ 0), .int (iZ 0)])), (y8, .inl (cI, 6000, .inl (zA (fun _ => 0)))), (y17, .inl (cI, 6000, .inl (zA (fun _ => 0)))), (y26, .inl (cI, 256, .inl (zA (fun _ => 0)))), (y35, .inl (cI, 256, .inl (zA (fun _ => 0))))] := jD
  refine va_putF (D := D) (ci := 4) (v := .ref y35) (ty := (.array .int)) (C := R_Mod) (T := F_Mod) (N := 14) jx jb jts i_Mod t_Mod t_Mod_ok n_Mod jown jK.1 jP jD jS 0 rfl rfl 7 (by decide) (jts _ fl_Mod_19) (fun _ h9 => h9) rfl jmn rfl (by decide +kernel) rfl rfl (Nat.le_of_ble_eq_true rfl) d_Mod_init_37 (fun H locs jP jD jS => ?_)
  have jP : va_P D classes [(r, .inr (4, [.ref y8, .int (iZ 0), .int (iZ 0), .ref y17, .int (iZ 0), .ref y26, .int (iZ 0), .ref y35, .null, .null, .null, .null, .int (iZ 0), .int (iZ 0)])), (y8, .inl (cI, 6000, .inl (zA (fun _ => 0)))), (y17, .inl (cI, 6000, .inl (zA (fun _ => 0)))), (y26, .inl (cI, 256, .inl (zA (fun _ => 0)))), (y35, .inl (cI, 256, .inl (zA (fun _ => 0))))] H := jP
  have jD : va_D A [(r, .inr (4, [.ref y8, .int (iZ 0), .int (iZ 0), .ref y17, .int (iZ 0), .ref y26, .int (iZ 0), .ref y35, .null, .null, .null, .null, .int (iZ 0), .int (iZ 0)])), (y8, .inl (cI, 6000, .inl (zA (fun _ => 0)))), (y17, .inl (cI, 6000, .inl (zA (fun _ => 0)))), (y26, .inl (cI, 256, .inl (zA (fun _ => 0)))), (y35, .inl (cI, 256, .inl (zA (fun _ => 0))))] := jD
  refine lv_aload_n jx jb d_Mod_init_40 rfl (lv_at jl 0 rfl) ?_
  refine lv_sipush (v := iZ 4096) jx jb d_Mod_init_41 (by decide) ?_
  refine z_newa jx jb (jts _ ac_int) rfl rfl rfl jK.1 jP jD jS jA 0 rfl 4096 ⟨rfl, by decide⟩ (Nat.le_of_ble_eq_true rfl) (Nat.le_of_ble_eq_true rfl) d_Mod_init_44 (fun y44 H jP jD jS => ?_)
  have jP : va_P D classes [(r, .inr (4, [.ref y8, .int (iZ 0), .int (iZ 0), .ref y17, .int (iZ 0), .ref y26, .int (iZ 0), .ref y35, .null, .null, .null, .null, .int (iZ 0), .int (iZ 0)])), (y8, .inl (cI, 6000, .inl (zA (fun _ => 0)))), (y17, .inl (cI, 6000, .inl (zA (fun _ => 0)))), (y26, .inl (cI, 256, .inl (zA (fun _ => 0)))), (y35, .inl (cI, 256, .inl (zA (fun _ => 0)))), (y44, .inl (cI, 4096, .inl (zA (fun _ => 0))))] H := jP
  have jD : va_D A [(r, .inr (4, [.ref y8, .int (iZ 0), .int (iZ 0), .ref y17, .int (iZ 0), .ref y26, .int (iZ 0), .ref y35, .null, .null, .null, .null, .int (iZ 0), .int (iZ 0)])), (y8, .inl (cI, 6000, .inl (zA (fun _ => 0)))), (y17, .inl (cI, 6000, .inl (zA (fun _ => 0)))), (y26, .inl (cI, 256, .inl (zA (fun _ => 0)))), (y35, .inl (cI, 256, .inl (zA (fun _ => 0)))), (y44, .inl (cI, 4096, .inl (zA (fun _ => 0))))] := jD
  refine va_putF (D := D) (ci := 4) (v := .ref y44) (ty := (.array .int)) (C := R_Mod) (T := F_Mod) (N := 14) jx jb jts i_Mod t_Mod t_Mod_ok n_Mod jown jK.1 jP jD jS 0 rfl rfl 8 (by decide) (jts _ fl_Mod_22) (fun _ h9 => h9) rfl jmn rfl (by decide +kernel) rfl rfl (Nat.le_of_ble_eq_true rfl) d_Mod_init_46 (fun H locs jP jD jS => ?_)
  have jP : va_P D classes [(r, .inr (4, [.ref y8, .int (iZ 0), .int (iZ 0), .ref y17, .int (iZ 0), .ref y26, .int (iZ 0), .ref y35, .ref y44, .null, .null, .null, .int (iZ 0), .int (iZ 0)])), (y8, .inl (cI, 6000, .inl (zA (fun _ => 0)))), (y17, .inl (cI, 6000, .inl (zA (fun _ => 0)))), (y26, .inl (cI, 256, .inl (zA (fun _ => 0)))), (y35, .inl (cI, 256, .inl (zA (fun _ => 0)))), (y44, .inl (cI, 4096, .inl (zA (fun _ => 0))))] H := jP
  have jD : va_D A [(r, .inr (4, [.ref y8, .int (iZ 0), .int (iZ 0), .ref y17, .int (iZ 0), .ref y26, .int (iZ 0), .ref y35, .ref y44, .null, .null, .null, .int (iZ 0), .int (iZ 0)])), (y8, .inl (cI, 6000, .inl (zA (fun _ => 0)))), (y17, .inl (cI, 6000, .inl (zA (fun _ => 0)))), (y26, .inl (cI, 256, .inl (zA (fun _ => 0)))), (y35, .inl (cI, 256, .inl (zA (fun _ => 0)))), (y44, .inl (cI, 4096, .inl (zA (fun _ => 0))))] := jD
  refine lv_aload_n jx jb d_Mod_init_49 rfl (lv_at jl 0 rfl) ?_
  refine lv_sipush (v := iZ 256) jx jb d_Mod_init_50 (by decide) ?_
  refine z_newa jx jb (jts _ ac_int) rfl rfl rfl jK.1 jP jD jS jA 0 rfl 256 ⟨rfl, by decide⟩ (Nat.le_of_ble_eq_true rfl) (Nat.le_of_ble_eq_true rfl) d_Mod_init_53 (fun y53 H jP jD jS => ?_)
  have jP : va_P D classes [(r, .inr (4, [.ref y8, .int (iZ 0), .int (iZ 0), .ref y17, .int (iZ 0), .ref y26, .int (iZ 0), .ref y35, .ref y44, .null, .null, .null, .int (iZ 0), .int (iZ 0)])), (y8, .inl (cI, 6000, .inl (zA (fun _ => 0)))), (y17, .inl (cI, 6000, .inl (zA (fun _ => 0)))), (y26, .inl (cI, 256, .inl (zA (fun _ => 0)))), (y35, .inl (cI, 256, .inl (zA (fun _ => 0)))), (y44, .inl (cI, 4096, .inl (zA (fun _ => 0)))), (y53, .inl (cI, 256, .inl (zA (fun _ => 0))))] H := jP
  have jD : va_D A [(r, .inr (4, [.ref y8, .int (iZ 0), .int (iZ 0), .ref y17, .int (iZ 0), .ref y26, .int (iZ 0), .ref y35, .ref y44, .null, .null, .null, .int (iZ 0), .int (iZ 0)])), (y8, .inl (cI, 6000, .inl (zA (fun _ => 0)))), (y17, .inl (cI, 6000, .inl (zA (fun _ => 0)))), (y26, .inl (cI, 256, .inl (zA (fun _ => 0)))), (y35, .inl (cI, 256, .inl (zA (fun _ => 0)))), (y44, .inl (cI, 4096, .inl (zA (fun _ => 0)))), (y53, .inl (cI, 256, .inl (zA (fun _ => 0))))] := jD
  refine va_putF (D := D) (ci := 4) (v := .ref y53) (ty := (.array .int)) (C := R_Mod) (T := F_Mod) (N := 14) jx jb jts i_Mod t_Mod t_Mod_ok n_Mod jown jK.1 jP jD jS 0 rfl rfl 9 (by decide) (jts _ fl_Mod_25) (fun _ h9 => h9) rfl jmn rfl (by decide +kernel) rfl rfl (Nat.le_of_ble_eq_true rfl) d_Mod_init_55 (fun H locs jP jD jS => ?_)
  have jP : va_P D classes [(r, .inr (4, [.ref y8, .int (iZ 0), .int (iZ 0), .ref y17, .int (iZ 0), .ref y26, .int (iZ 0), .ref y35, .ref y44, .ref y53, .null, .null, .int (iZ 0), .int (iZ 0)])), (y8, .inl (cI, 6000, .inl (zA (fun _ => 0)))), (y17, .inl (cI, 6000, .inl (zA (fun _ => 0)))), (y26, .inl (cI, 256, .inl (zA (fun _ => 0)))), (y35, .inl (cI, 256, .inl (zA (fun _ => 0)))), (y44, .inl (cI, 4096, .inl (zA (fun _ => 0)))), (y53, .inl (cI, 256, .inl (zA (fun _ => 0))))] H := jP
  have jD : va_D A [(r, .inr (4, [.ref y8, .int (iZ 0), .int (iZ 0), .ref y17, .int (iZ 0), .ref y26, .int (iZ 0), .ref y35, .ref y44, .ref y53, .null, .null, .int (iZ 0), .int (iZ 0)])), (y8, .inl (cI, 6000, .inl (zA (fun _ => 0)))), (y17, .inl (cI, 6000, .inl (zA (fun _ => 0)))), (y26, .inl (cI, 256, .inl (zA (fun _ => 0)))), (y35, .inl (cI, 256, .inl (zA (fun _ => 0)))), (y44, .inl (cI, 4096, .inl (zA (fun _ => 0)))), (y53, .inl (cI, 256, .inl (zA (fun _ => 0))))] := jD
  refine lv_aload_n jx jb d_Mod_init_58 rfl (lv_at jl 0 rfl) ?_
  refine lv_sipush (v := iZ 256) jx jb d_Mod_init_59 (by decide) ?_
  refine z_newa jx jb (jts _ ac_int) rfl rfl rfl jK.1 jP jD jS jA 0 rfl 256 ⟨rfl, by decide⟩ (Nat.le_of_ble_eq_true rfl) (Nat.le_of_ble_eq_true rfl) d_Mod_init_62 (fun y62 H jP jD jS => ?_)
  have jP : va_P D classes [(r, .inr (4, [.ref y8, .int (iZ 0), .int (iZ 0), .ref y17, .int (iZ 0), .ref y26, .int (iZ 0), .ref y35, .ref y44, .ref y53, .null, .null, .int (iZ 0), .int (iZ 0)])), (y8, .inl (cI, 6000, .inl (zA (fun _ => 0)))), (y17, .inl (cI, 6000, .inl (zA (fun _ => 0)))), (y26, .inl (cI, 256, .inl (zA (fun _ => 0)))), (y35, .inl (cI, 256, .inl (zA (fun _ => 0)))), (y44, .inl (cI, 4096, .inl (zA (fun _ => 0)))), (y53, .inl (cI, 256, .inl (zA (fun _ => 0)))), (y62, .inl (cI, 256, .inl (zA (fun _ => 0))))] H := jP
  have jD : va_D A [(r, .inr (4, [.ref y8, .int (iZ 0), .int (iZ 0), .ref y17, .int (iZ 0), .ref y26, .int (iZ 0), .ref y35, .ref y44, .ref y53, .null, .null, .int (iZ 0), .int (iZ 0)])), (y8, .inl (cI, 6000, .inl (zA (fun _ => 0)))), (y17, .inl (cI, 6000, .inl (zA (fun _ => 0)))), (y26, .inl (cI, 256, .inl (zA (fun _ => 0)))), (y35, .inl (cI, 256, .inl (zA (fun _ => 0)))), (y44, .inl (cI, 4096, .inl (zA (fun _ => 0)))), (y53, .inl (cI, 256, .inl (zA (fun _ => 0)))), (y62, .inl (cI, 256, .inl (zA (fun _ => 0))))] := jD
  refine va_putF (D := D) (ci := 4) (v := .ref y62) (ty := (.array .int)) (C := R_Mod) (T := F_Mod) (N := 14) jx jb jts i_Mod t_Mod t_Mod_ok n_Mod jown jK.1 jP jD jS 0 rfl rfl 10 (by decide) (jts _ fl_Mod_28) (fun _ h9 => h9) rfl jmn rfl (by decide +kernel) rfl rfl (Nat.le_of_ble_eq_true rfl) d_Mod_init_64 (fun H locs jP jD jS => ?_)
  have jP : va_P D classes [(r, .inr (4, [.ref y8, .int (iZ 0), .int (iZ 0), .ref y17, .int (iZ 0), .ref y26, .int (iZ 0), .ref y35, .ref y44, .ref y53, .ref y62, .null, .int (iZ 0), .int (iZ 0)])), (y8, .inl (cI, 6000, .inl (zA (fun _ => 0)))), (y17, .inl (cI, 6000, .inl (zA (fun _ => 0)))), (y26, .inl (cI, 256, .inl (zA (fun _ => 0)))), (y35, .inl (cI, 256, .inl (zA (fun _ => 0)))), (y44, .inl (cI, 4096, .inl (zA (fun _ => 0)))), (y53, .inl (cI, 256, .inl (zA (fun _ => 0)))), (y62, .inl (cI, 256, .inl (zA (fun _ => 0))))] H := jP
  have jD : va_D A [(r, .inr (4, [.ref y8, .int (iZ 0), .int (iZ 0), .ref y17, .int (iZ 0), .ref y26, .int (iZ 0), .ref y35, .ref y44, .ref y53, .ref y62, .null, .int (iZ 0), .int (iZ 0)])), (y8, .inl (cI, 6000, .inl (zA (fun _ => 0)))), (y17, .inl (cI, 6000, .inl (zA (fun _ => 0)))), (y26, .inl (cI, 256, .inl (zA (fun _ => 0)))), (y35, .inl (cI, 256, .inl (zA (fun _ => 0)))), (y44, .inl (cI, 4096, .inl (zA (fun _ => 0)))), (y53, .inl (cI, 256, .inl (zA (fun _ => 0)))), (y62, .inl (cI, 256, .inl (zA (fun _ => 0))))] := jD
  refine lv_aload_n jx jb d_Mod_init_67 rfl (lv_at jl 0 rfl) ?_
  refine lv_sipush (v := iZ 256) jx jb d_Mod_init_68 (by decide) ?_
  refine z_newa jx jb (jts _ ac_boolean) rfl rfl rfl jK.1 jP jD jS jA 2 rfl 256 ⟨rfl, by decide⟩ (Nat.le_of_ble_eq_true rfl) (Nat.le_of_ble_eq_true rfl) d_Mod_init_71 (fun y71 H jP jD jS => ?_)
  have jP : va_P D classes [(r, .inr (4, [.ref y8, .int (iZ 0), .int (iZ 0), .ref y17, .int (iZ 0), .ref y26, .int (iZ 0), .ref y35, .ref y44, .ref y53, .ref y62, .null, .int (iZ 0), .int (iZ 0)])), (y8, .inl (cI, 6000, .inl (zA (fun _ => 0)))), (y17, .inl (cI, 6000, .inl (zA (fun _ => 0)))), (y26, .inl (cI, 256, .inl (zA (fun _ => 0)))), (y35, .inl (cI, 256, .inl (zA (fun _ => 0)))), (y44, .inl (cI, 4096, .inl (zA (fun _ => 0)))), (y53, .inl (cI, 256, .inl (zA (fun _ => 0)))), (y62, .inl (cI, 256, .inl (zA (fun _ => 0)))), (y71, .inl (cZ, 256, .inl (zA (fun _ => 0))))] H := jP
  have jD : va_D A [(r, .inr (4, [.ref y8, .int (iZ 0), .int (iZ 0), .ref y17, .int (iZ 0), .ref y26, .int (iZ 0), .ref y35, .ref y44, .ref y53, .ref y62, .null, .int (iZ 0), .int (iZ 0)])), (y8, .inl (cI, 6000, .inl (zA (fun _ => 0)))), (y17, .inl (cI, 6000, .inl (zA (fun _ => 0)))), (y26, .inl (cI, 256, .inl (zA (fun _ => 0)))), (y35, .inl (cI, 256, .inl (zA (fun _ => 0)))), (y44, .inl (cI, 4096, .inl (zA (fun _ => 0)))), (y53, .inl (cI, 256, .inl (zA (fun _ => 0)))), (y62, .inl (cI, 256, .inl (zA (fun _ => 0)))), (y71, .inl (cZ, 256, .inl (zA (fun _ => 0))))] := jD
  refine va_putF (D := D) (ci := 4) (v := .ref y71) (ty := (.array .boolean)) (C := R_Mod) (T := F_Mod) (N := 14) jx jb jts i_Mod t_Mod t_Mod_ok n_Mod jown jK.1 jP jD jS 0 rfl rfl 11 (by decide) (jts _ fl_Mod_31) (fun _ h9 => h9) rfl jmn rfl (by decide +kernel) rfl rfl (Nat.le_of_ble_eq_true rfl) d_Mod_init_73 (fun H locs jP jD jS => ?_)
  have jP : va_P D classes [(r, .inr (4, [.ref y8, .int (iZ 0), .int (iZ 0), .ref y17, .int (iZ 0), .ref y26, .int (iZ 0), .ref y35, .ref y44, .ref y53, .ref y62, .ref y71, .int (iZ 0), .int (iZ 0)])), (y8, .inl (cI, 6000, .inl (zA (fun _ => 0)))), (y17, .inl (cI, 6000, .inl (zA (fun _ => 0)))), (y26, .inl (cI, 256, .inl (zA (fun _ => 0)))), (y35, .inl (cI, 256, .inl (zA (fun _ => 0)))), (y44, .inl (cI, 4096, .inl (zA (fun _ => 0)))), (y53, .inl (cI, 256, .inl (zA (fun _ => 0)))), (y62, .inl (cI, 256, .inl (zA (fun _ => 0)))), (y71, .inl (cZ, 256, .inl (zA (fun _ => 0))))] H := jP
  have jD : va_D A [(r, .inr (4, [.ref y8, .int (iZ 0), .int (iZ 0), .ref y17, .int (iZ 0), .ref y26, .int (iZ 0), .ref y35, .ref y44, .ref y53, .ref y62, .ref y71, .int (iZ 0), .int (iZ 0)])), (y8, .inl (cI, 6000, .inl (zA (fun _ => 0)))), (y17, .inl (cI, 6000, .inl (zA (fun _ => 0)))), (y26, .inl (cI, 256, .inl (zA (fun _ => 0)))), (y35, .inl (cI, 256, .inl (zA (fun _ => 0)))), (y44, .inl (cI, 4096, .inl (zA (fun _ => 0)))), (y53, .inl (cI, 256, .inl (zA (fun _ => 0)))), (y62, .inl (cI, 256, .inl (zA (fun _ => 0)))), (y71, .inl (cZ, 256, .inl (zA (fun _ => 0))))] := jD
  exact jret _ _ (y8, y17, y26, y35, y44, y53, y62, y71) _ _ (trivial) (jP.sub [0, 1, 2, 3, 4, 5, 6, 7, 8] rfl) (jD.sub [0, 1, 2, 3, 4, 5, 6, 7, 8] (by decide) rfl) jS d_Mod_init_76
abbrev rm_M_takeBack : Room := { frames := 0, cells := 0, slots := 0, locals := 0 }
set_option maxHeartbeats 4000000 in
set_option maxRecDepth 100000 in
theorem c_M_takeBack (l : Launch) (D : va_G) (cI cB cZ : ClassId) (sz : Nat) (r : Nat) (ri : Nat) (ro : Nat) (rc : Nat) (rp : Nat) (rs : Nat) (rd : Nat) (rk : Nat) (rh : Nat) (iL : Int) (go : Int) (oL : Int) (o : Nat) (bP : Int) (bR : Int) (xd : Nat → Int) (x : Int) (hdr : ∀ k, k < 256 → -1 ≤ xd k ∧ xd k ≤ 65536) (hx1 : -100000 ≤ x ∧ x ≤ 60000) : Met l y_Mod_takeBack (.code y_Mod_takeBack b_Mod_takeBack 5 none :: zT) rm_M_takeBack (zPc D classes (TY cI cB cZ) [(r, .inr (4, [.ref ri, .int (iZ iL), .int (iZ go), .ref ro, .int (iZ oL), .ref rc, .int (iZ (o : Int)), .ref rp, .ref rs, .ref rd, .ref rk, .ref rh, .int (iZ bP), .int (iZ bR)])), (rd, .inl (cI, 256, .inl (zA xd)))] sz [.ref r, .int (iZ x)]) (zFv (S := Nat → Int) D classes (fun u => ∀ k, k < 256 → u k = txF xd x.toNat k) (fun u => [(r, .inr (4, [.ref ri, .int (iZ iL), .int (iZ go), .ref ro, .int (iZ oL), .ref rc, .int (iZ (o : Int)), .ref rp, .ref rs, .ref rd, .ref rk, .ref rh, .int (iZ bP), .int (iZ bR)])), (rd, .inl (cI, 256, .inl (zA u)))]) (va_A [(r, .inr (4, [.ref ri, .int (iZ iL), .int (iZ go), .ref ro, .int (iZ oL), .ref rc, .int (iZ (o : Int)), .ref rp, .ref rs, .ref rd, .ref rk, .ref rh, .int (iZ bP), .int (iZ bR)])), (rd, .inl (cI, 256, .inl (zA xd)))] sz)) 0 0 (va_A [(r, .inr (4, [.ref ri, .int (iZ iL), .int (iZ go), .ref ro, .int (iZ oL), .ref rc, .int (iZ (o : Int)), .ref rp, .ref rs, .ref rd, .ref rk, .ref rh, .int (iZ bP), .int (iZ bR)])), (rd, .inl (cI, 256, .inl (zA xd)))] sz) := by
  refine z_ofv (by decide) (Nat.le_of_ble_eq_true rfl) rfl ?_
  intro p e s m args below meth c A Q E jmn jA jK jret H locs jP jD jS ls jl
  obtain ⟨jx, jb, jrt, jml, jown, jts, jlk⟩ := E
  have jown : s.vm.findClass R_Mod = some m.cls := jown
  have jl : lv_has ls 5 [(0, .ref r), (1, .int (iZ x))] := jl
  refine lv_iconst (v := iZ 0) jx jb d_Mod_takeBack_0 rfl ?_
  refine lv_istore_n (lv' := [(2, .int (iZ 0)), (0, .ref r), (1, .int (iZ x))]) jx jb d_Mod_takeBack_1 rfl jl (by decide) rfl (fun ls jl => ?_)
  have hloop2 : ∀ (nF : Nat) (k : Nat) (d2 : Nat → Int), x.toNat - k < nF → (k ≤ x.toNat) → (d2 = txF xd k) → ∀ (H : Heap) (locs : List Loc), va_P D classes [(r, .inr (4, [.ref ri, .int (iZ iL), .int (iZ go), .ref ro, .int (iZ oL), .ref rc, .int (iZ (o : Int)), .ref rp, .ref rs, .ref rd, .ref rk, .ref rh, .int (iZ bP), .int (iZ bR)])), (rd, .inl (cI, 256, .inl (zA d2)))] H → va_D A [(r, .inr (4, [.ref ri, .int (iZ iL), .int (iZ go), .ref ro, .int (iZ oL), .ref rc, .int (iZ (o : Int)), .ref rp, .ref rs, .ref rd, .ref rk, .ref rh, .int (iZ bP), .int (iZ bR)])), (rd, .inl (cI, 256, .inl (zA d2)))] → va_S A s.heap H locs → ∀ ls : Array Slot, lv_has ls 5 [(0, .ref r), (1, .int (iZ x)), (2, .int (iZ (k : Int)))] → W p l e rm_M_takeBack s m args below meth c H locs 0 0 Q (F0 m 2 ls []) := by
    intro nF
    induction nF with
    | zero => intro k d2 hm; exact absurd hm (Nat.not_lt_zero _)
    | succ nF ih2 =>
      intro k d2 hm hk h1 H locs jP jD jS ls jl
      refine lv_iload_n jx jb d_Mod_takeBack_2 rfl (lv_at jl 2 rfl) ?_
      refine lv_iload_n jx jb d_Mod_takeBack_3 rfl (lv_at jl 1 rfl) ?_
      refine z_icmp_ge (tgt := 61) jx jb d_Mod_takeBack_4 (by decide) ⟨⟨by omega, by omega⟩, ⟨by omega, by omega⟩⟩ (fun hc4 => ?_) (fun hc4 => ?_)
      ·
        exact jret _ _ (d2) _ _ (fun k9 h9 => by rw [h1, show k = x.toNat by omega]) (jP.sub [0, 1] rfl) (jD.sub [0, 1] (by decide) rfl) jS d_Mod_takeBack_61
      ·
        refine lv_iconst (v := iZ 0) jx jb d_Mod_takeBack_7 rfl ?_
        refine lv_istore_n (lv' := [(3, .int (iZ 0)), (0, .ref r), (1, .int (iZ x)), (2, .int (iZ (k : Int)))]) jx jb d_Mod_takeBack_8 rfl jl (by decide) rfl (fun ls jl => ?_)
        refine lv_iconst (v := iZ 1) jx jb d_Mod_takeBack_9 rfl ?_
        refine lv_istore (lv' := [(4, .int (iZ 1)), (3, .int (iZ 0)), (0, .ref r), (1, .int (iZ x)), (2, .int (iZ (k : Int)))]) jx jb d_Mod_takeBack_10 jl (by decide) rfl (fun ls jl => ?_)
        have hloop12 : ∀ (nF : Nat) (i : Nat) (b1 : Nat), 256 - i < nF → (1 ≤ i ∧ i ≤ 256 ∧ b1 < i) → (mxF d2 i = b1) → ∀ (H : Heap) (locs : List Loc), va_P D classes [(r, .inr (4, [.ref ri, .int (iZ iL), .int (iZ go), .ref ro, .int (iZ oL), .ref rc, .int (iZ (o : Int)), .ref rp, .ref rs, .ref rd, .ref rk, .ref rh, .int (iZ bP), .int (iZ bR)])), (rd, .inl (cI, 256, .inl (zA d2)))] H → va_D A [(r, .inr (4, [.ref ri, .int (iZ iL), .int (iZ go), .ref ro, .int (iZ oL), .ref rc, .int (iZ (o : Int)), .ref rp, .ref rs, .ref rd, .ref rk, .ref rh, .int (iZ bP), .int (iZ bR)])), (rd, .inl (cI, 256, .inl (zA d2)))] → va_S A s.heap H locs → ∀ ls : Array Slot, lv_has ls 5 [(0, .ref r), (1, .int (iZ x)), (2, .int (iZ (k : Int))), (3, .int (iZ (b1 : Int))), (4, .int (iZ (i : Int)))] → W p l e rm_M_takeBack s m args below meth c H locs 0 0 Q (F0 m 12 ls []) := by
          intro nF
          induction nF with
          | zero => intro i b1 hm; exact absurd hm (Nat.not_lt_zero _)
          | succ nF ih12 =>
            intro i b1 hm hi hbs H locs jP jD jS ls jl
            refine lv_iload jx jb d_Mod_takeBack_12 (lv_at jl 4 rfl) ?_
            refine lv_sipush (v := iZ 256) jx jb d_Mod_takeBack_14 (by decide) ?_
            refine z_icmp_ge (tgt := 45) jx jb d_Mod_takeBack_17 (by decide) ⟨⟨by omega, by omega⟩, ⟨by decide, by decide⟩⟩ (fun hc17 => ?_) (fun hc17 => ?_)
            ·
              refine lv_aload_n jx jb d_Mod_takeBack_45 rfl (lv_at jl 0 rfl) ?_
              refine va_get (D := D) (ci := 4) (v := .ref rd) (C := R_Mod) (T := F_Mod) (N := 14) jx jb jts i_Mod jown jK.1 jP 0 rfl rfl 9 (by decide) (jts _ fl_Mod_25) (fun _ h9 => h9) rfl d_Mod_takeBack_46 ?_
              refine lv_iload_n jx jb d_Mod_takeBack_49 rfl (lv_at jl 3 rfl) ?_
              refine lv_dup2_11 jx jb d_Mod_takeBack_50 rfl rfl ?_
              refine z_iald jx jb jK.1 jP 1 0 rfl rfl b1 (by omega) d_Mod_takeBack_51 ?_
              refine lv_iconst (v := iZ 1) jx jb d_Mod_takeBack_52 rfl ?_
              refine z_isub jx jb d_Mod_takeBack_53 ?_
              refine z_iast jx jb jK.1 jP jD jS 1 0 rfl rfl b1 (by omega) d_Mod_takeBack_54 (fun H locs jP jD jS => ?_)
              have jP : va_P D classes [(r, .inr (4, [.ref ri, .int (iZ iL), .int (iZ go), .ref ro, .int (iZ oL), .ref rc, .int (iZ (o : Int)), .ref rp, .ref rs, .ref rd, .ref rk, .ref rh, .int (iZ bP), .int (iZ bR)])), (rd, .inl (cI, 256, .inl (zA (zu d2 b1 ((d2 b1) - 1)))))] H := jP
              have jD : va_D A [(r, .inr (4, [.ref ri, .int (iZ iL), .int (iZ go), .ref ro, .int (iZ oL), .ref rc, .int (iZ (o : Int)), .ref rp, .ref rs, .ref rd, .ref rk, .ref rh, .int (iZ bP), .int (iZ bR)])), (rd, .inl (cI, 256, .inl (zA (zu d2 b1 ((d2 b1) - 1)))))] := jD
              refine lv_iinc (v := iZ ((k : Int) + 1)) (lv' := [(2, .int (iZ ((k : Int) + 1))), (0, .ref r), (1, .int (iZ x)), (3, .int (iZ (b1 : Int))), (4, .int (iZ (i : Int)))]) jx jb d_Mod_takeBack_55 jl (k := 2) rfl (iZ_add _ _) (by decide) rfl (fun ls jl => ?_)
              refine lv_goto (tgt := 2) jx jb d_Mod_takeBack_58 (by decide) ?_
              exact ih2 (k + 1) (zu d2 b1 ((d2 b1) - 1)) (by omega) (by first | assumption | omega) (tx_s h1 (by omega) hbs) _ _ (jP.sub [0, 1] rfl) (jD.sub [0, 1] (by decide) rfl) jS _ (lv_sub jl [1, 2, 0] rfl)
            ·
              refine lv_aload_n jx jb d_Mod_takeBack_20 rfl (lv_at jl 0 rfl) ?_
              refine va_get (D := D) (ci := 4) (v := .ref rd) (C := R_Mod) (T := F_Mod) (N := 14) jx jb jts i_Mod jown jK.1 jP 0 rfl rfl 9 (by decide) (jts _ fl_Mod_25) (fun _ h9 => h9) rfl d_Mod_takeBack_21 ?_
              refine lv_iload jx jb d_Mod_takeBack_24 (lv_at jl 4 rfl) ?_
              refine z_iald jx jb jK.1 jP 1 0 rfl rfl i (by omega) d_Mod_takeBack_26 ?_
              refine lv_aload_n jx jb d_Mod_takeBack_27 rfl (lv_at jl 0 rfl) ?_
              refine va_get (D := D) (ci := 4) (v := .ref rd) (C := R_Mod) (T := F_Mod) (N := 14) jx jb jts i_Mod jown jK.1 jP 0 rfl rfl 9 (by decide) (jts _ fl_Mod_25) (fun _ h9 => h9) rfl d_Mod_takeBack_28 ?_
              refine lv_iload_n jx jb d_Mod_takeBack_31 rfl (lv_at jl 3 rfl) ?_
              refine z_iald jx jb jK.1 jP 1 0 rfl rfl b1 (by omega) d_Mod_takeBack_32 ?_
              refine z_icmp_le (tgt := 39) jx jb d_Mod_takeBack_33 (by decide) ⟨⟨by have := tx_b hdr hk h1 i (by omega); omega, by have := tx_b hdr hk h1 i (by omega); omega⟩, ⟨by have := tx_b hdr hk h1 b1 (by omega); omega, by have := tx_b hdr hk h1 b1 (by omega); omega⟩⟩ (fun hc33 => ?_) (fun hc33 => ?_)
              ·
                refine lv_iinc (v := iZ ((i : Int) + 1)) (lv' := [(4, .int (iZ ((i : Int) + 1))), (0, .ref r), (1, .int (iZ x)), (2, .int (iZ (k : Int))), (3, .int (iZ (b1 : Int)))]) jx jb d_Mod_takeBack_39 jl (k := 4) rfl (iZ_add _ _) (by decide) rfl (fun ls jl => ?_)
                refine lv_goto (tgt := 12) jx jb d_Mod_takeBack_42 (by decide) ?_
                exact ih12 (i + 1) b1 (by omega) (by omega) (by first | exact mx_t hbs hc33 | exact mx_f hbs hc33) _ _ (jP.sub [0, 1] rfl) (jD.sub [0, 1] (by decide) rfl) jS _ (lv_sub jl [1, 2, 3, 4, 0] rfl)
              ·
                refine lv_iload jx jb d_Mod_takeBack_36 (lv_at jl 4 rfl) ?_
                refine lv_istore_n (lv' := [(3, .int (iZ (i : Int))), (0, .ref r), (1, .int (iZ x)), (2, .int (iZ (k : Int))), (4, .int (iZ (i : Int)))]) jx jb d_Mod_takeBack_38 rfl jl (by decide) rfl (fun ls jl => ?_)
                refine lv_iinc (v := iZ ((i : Int) + 1)) (lv' := [(4, .int (iZ ((i : Int) + 1))), (3, .int (iZ (i : Int))), (0, .ref r), (1, .int (iZ x)), (2, .int (iZ (k : Int)))]) jx jb d_Mod_takeBack_39 jl (k := 4) rfl (iZ_add _ _) (by decide) rfl (fun ls jl => ?_)
                refine lv_goto (tgt := 12) jx jb d_Mod_takeBack_42 (by decide) ?_
                exact ih12 (i + 1) i (by omega) (by omega) (by first | exact mx_t hbs hc33 | exact mx_f hbs hc33) _ _ (jP.sub [0, 1] rfl) (jD.sub [0, 1] (by decide) rfl) jS _ (lv_sub jl [2, 3, 4, 1, 0] rfl)
        exact hloop12 ((256 - 1) + 1) 1 0 (Nat.lt_succ_self _) (by first | assumption | omega) (mx_1) _ _ (jP.sub [0, 1] rfl) (jD.sub [0, 1] (by decide) rfl) jS _ (lv_sub jl [2, 3, 4, 1, 0] rfl)
  exact hloop2 ((x.toNat - 0) + 1) 0 xd (Nat.lt_succ_self _) (by first | assumption | omega) (rfl) _ _ (jP.sub [0, 1] rfl) (jD.sub [0, 1] (by decide) rfl) jS _ (lv_sub jl [1, 2, 0] rfl)
