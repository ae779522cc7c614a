
theorem d_CountsRule_takeExcess_0 : decode b_CountsRule_takeExcess 0 = .ok (.iconst 0, 1) := by decide +kernel
theorem d_CountsRule_takeExcess_1 : decode b_CountsRule_takeExcess 1 = .ok (.istore_n 3, 1) := by decide +kernel
theorem d_CountsRule_takeExcess_2 : decode b_CountsRule_takeExcess 2 = .ok (.iload_n 3, 1) := by decide +kernel
theorem d_CountsRule_takeExcess_3 : decode b_CountsRule_takeExcess 3 = .ok (.iload_n 2, 1) := by decide +kernel
theorem d_CountsRule_takeExcess_4 : decode b_CountsRule_takeExcess 4 = .ok (.if_icmp .ge 52, 3) := by decide +kernel
theorem d_CountsRule_takeExcess_7 : decode b_CountsRule_takeExcess 7 = .ok (.iconst 0, 1) := by decide +kernel
theorem d_CountsRule_takeExcess_8 : decode b_CountsRule_takeExcess 8 = .ok (.istore 4, 2) := by decide +kernel
theorem d_CountsRule_takeExcess_10 : decode b_CountsRule_takeExcess 10 = .ok (.iconst 1, 1) := by decide +kernel
theorem d_CountsRule_takeExcess_11 : decode b_CountsRule_takeExcess 11 = .ok (.istore 5, 2) := by decide +kernel
theorem d_CountsRule_takeExcess_13 : decode b_CountsRule_takeExcess 13 = .ok (.iload 5, 2) := by decide +kernel
theorem d_CountsRule_takeExcess_15 : decode b_CountsRule_takeExcess 15 = .ok (.sipush 256, 3) := by decide +kernel
theorem d_CountsRule_takeExcess_18 : decode b_CountsRule_takeExcess 18 = .ok (.if_icmp .ge 24, 3) := by decide +kernel
theorem d_CountsRule_takeExcess_21 : decode b_CountsRule_takeExcess 21 = .ok (.aload_n 1, 1) := by decide +kernel
theorem d_CountsRule_takeExcess_22 : decode b_CountsRule_takeExcess 22 = .ok (.iload 5, 2) := by decide +kernel
theorem d_CountsRule_takeExcess_24 : decode b_CountsRule_takeExcess 24 = .ok (.iaload, 1) := by decide +kernel
theorem d_CountsRule_takeExcess_25 : decode b_CountsRule_takeExcess 25 = .ok (.aload_n 1, 1) := by decide +kernel
theorem d_CountsRule_takeExcess_26 : decode b_CountsRule_takeExcess 26 = .ok (.iload 4, 2) := by decide +kernel
theorem d_CountsRule_takeExcess_28 : decode b_CountsRule_takeExcess 28 = .ok (.iaload, 1) := by decide +kernel
theorem d_CountsRule_takeExcess_29 : decode b_CountsRule_takeExcess 29 = .ok (.if_icmp .le 7, 3) := by decide +kernel
theorem d_CountsRule_takeExcess_32 : decode b_CountsRule_takeExcess 32 = .ok (.iload 5, 2) := by decide +kernel
theorem d_CountsRule_takeExcess_34 : decode b_CountsRule_takeExcess 34 = .ok (.istore 4, 2) := by decide +kernel
theorem d_CountsRule_takeExcess_36 : decode b_CountsRule_takeExcess 36 = .ok (.iinc 5 1, 3) := by decide +kernel
theorem d_CountsRule_takeExcess_39 : decode b_CountsRule_takeExcess 39 = .ok (.goto (-26), 3) := by decide +kernel
theorem d_CountsRule_takeExcess_42 : decode b_CountsRule_takeExcess 42 = .ok (.aload_n 1, 1) := by decide +kernel
theorem d_CountsRule_takeExcess_43 : decode b_CountsRule_takeExcess 43 = .ok (.iload 4, 2) := by decide +kernel
theorem d_CountsRule_takeExcess_45 : decode b_CountsRule_takeExcess 45 = .ok (.dup2, 1) := by decide +kernel
theorem d_CountsRule_takeExcess_46 : decode b_CountsRule_takeExcess 46 = .ok (.iaload, 1) := by decide +kernel
theorem d_CountsRule_takeExcess_47 : decode b_CountsRule_takeExcess 47 = .ok (.iconst 1, 1) := by decide +kernel
theorem d_CountsRule_takeExcess_48 : decode b_CountsRule_takeExcess 48 = .ok (.isub, 1) := by decide +kernel
theorem d_CountsRule_takeExcess_49 : decode b_CountsRule_takeExcess 49 = .ok (.iastore, 1) := by decide +kernel
theorem d_CountsRule_takeExcess_50 : decode b_CountsRule_takeExcess 50 = .ok (.iinc 3 1, 3) := by decide +kernel
theorem d_CountsRule_takeExcess_53 : decode b_CountsRule_takeExcess 53 = .ok (.goto (-51), 3) := by decide +kernel
theorem d_CountsRule_takeExcess_56 : decode b_CountsRule_takeExcess 56 = .ok (.return_, 1) := by decide +kernel
abbrev rm_Rule_takeExcess : Room := { frames := 0, cells := 0, slots := 0, locals := 0 }
set_option maxHeartbeats 4000000 in
set_option maxRecDepth 100000 in
theorem c_Rule_takeExcess (l : Launch) (D : va_G) (cI cB cZ : ClassId) (sz : Nat) (h : Nat) (u1 : Nat) (u2 : Nat) (rl : Int) (q : Nat) (fp : Nat → Int) (x : Int) (hdr : ∀ k, k < 256 → -1 ≤ fp k ∧ fp k ≤ 65536) (hx1 : -100000 ≤ x ∧ x ≤ 60000) : Met l y_CountsRule_takeExcess (.code y_CountsRule_takeExcess b_CountsRule_takeExcess 6 none :: zT) rm_Rule_takeExcess (zPc D classes (TY cI cB cZ) [(h, .inr (2, [.ref u1, .ref u2, .int (iZ rl)])), (q, .inl (cI, 256, .inl (zA fp)))] sz [.ref h, .ref q, .int (iZ x)]) (zFv (S := Nat → Int) D classes (fun u => ∀ k, k < 256 → u k = txF fp x.toNat k) (fun u => [(h, .inr (2, [.ref u1, .ref u2, .int (iZ rl)])), (q, .inl (cI, 256, .inl (zA u)))]) (va_A [(h, .inr (2, [.ref u1, .ref u2, .int (iZ rl)])), (q, .inl (cI, 256, .inl (zA fp)))] sz)) 0 0 (va_A [(h, .inr (2, [.ref u1, .ref u2, .int (iZ rl)])), (q, .inl (cI, 256, .inl (zA fp)))] sz) := by
  refine z_ofv (by decide) (Nat.le_of_ble_eq_true rfl) rfl ?_
  intro p e s m args below meth c A Q E jmn jA jK jret H locs jP jD jS ls jl
  obtain ⟨jx, jb, jrt, jml, jown, jts, jlk⟩ := E
  have jown : s.vm.findClass R_CountsRule = some m.cls := jown
  have jl : lv_has ls 6 [(0, .ref h), (1, .ref q), (2, .int (iZ x))] := jl
  refine lv_iconst (v := iZ 0) jx jb d_CountsRule_takeExcess_0 rfl ?_
  refine lv_istore_n (lv' := [(3, .int (iZ 0)), (0, .ref h), (1, .ref q), (2, .int (iZ x))]) jx jb d_CountsRule_takeExcess_1 rfl jl (by decide) rfl (fun ls jl => ?_)
  have hloop2 : ∀ (nF : Nat) (k : Nat) (d2 : Nat → Int), x.toNat - k < nF → (k ≤ x.toNat) → (d2 = txF fp k) → ∀ (H : Heap) (locs : List Loc), va_P D classes [(h, .inr (2, [.ref u1, .ref u2, .int (iZ rl)])), (q, .inl (cI, 256, .inl (zA d2)))] H → va_D A [(h, .inr (2, [.ref u1, .ref u2, .int (iZ rl)])), (q, .inl (cI, 256, .inl (zA d2)))] → va_S A s.heap H locs → ∀ ls : Array Slot, lv_has ls 6 [(0, .ref h), (1, .ref q), (2, .int (iZ x)), (3, .int (iZ (k : Int)))] → W p l e rm_Rule_takeExcess s m args below meth c H locs 0 0 Q (F0 m 2 ls []) := by
    intro nF
    induction nF with
    | zero => intro k d2 hm; exact absurd hm (Nat.not_lt_zero _)
    | succ nF ih2 =>
      intro k d2 hm hk h1 H locs jP jD jS ls jl
      refine lv_iload_n jx jb d_CountsRule_takeExcess_2 rfl (lv_at jl 3 rfl) ?_
      refine lv_iload_n jx jb d_CountsRule_takeExcess_3 rfl (lv_at jl 2 rfl) ?_
      refine z_icmp_ge (tgt := 56) jx jb d_CountsRule_takeExcess_4 (by decide) ⟨⟨by omega, by omega⟩, ⟨by omega, by omega⟩⟩ (fun hc4 => ?_) (fun hc4 => ?_)
      ·
        exact jret _ _ (d2) _ _ (fun k9 h9 => by rw [h1, show k = x.toNat by omega]) (jP.sub [0, 1] rfl) (jD.sub [0, 1] (by decide) rfl) jS d_CountsRule_takeExcess_56
      ·
        refine lv_iconst (v := iZ 0) jx jb d_CountsRule_takeExcess_7 rfl ?_
        refine lv_istore (lv' := [(4, .int (iZ 0)), (0, .ref h), (1, .ref q), (2, .int (iZ x)), (3, .int (iZ (k : Int)))]) jx jb d_CountsRule_takeExcess_8 jl (by decide) rfl (fun ls jl => ?_)
        refine lv_iconst (v := iZ 1) jx jb d_CountsRule_takeExcess_10 rfl ?_
        refine lv_istore (lv' := [(5, .int (iZ 1)), (4, .int (iZ 0)), (0, .ref h), (1, .ref q), (2, .int (iZ x)), (3, .int (iZ (k : Int)))]) jx jb d_CountsRule_takeExcess_11 jl (by decide) rfl (fun ls jl => ?_)
        have hloop13 : ∀ (nF : Nat) (i : Nat) (b1 : Nat), 256 - i < nF → (1 ≤ i ∧ i ≤ 256 ∧ b1 < i) → (mxF d2 i = b1) → ∀ (H : Heap) (locs : List Loc), va_P D classes [(h, .inr (2, [.ref u1, .ref u2, .int (iZ rl)])), (q, .inl (cI, 256, .inl (zA d2)))] H → va_D A [(h, .inr (2, [.ref u1, .ref u2, .int (iZ rl)])), (q, .inl (cI, 256, .inl (zA d2)))] → va_S A s.heap H locs → ∀ ls : Array Slot, lv_has ls 6 [(0, .ref h), (1, .ref q), (2, .int (iZ x)), (3, .int (iZ (k : Int))), (4, .int (iZ (b1 : Int))), (5, .int (iZ (i : Int)))] → W p l e rm_Rule_takeExcess s m args below meth c H locs 0 0 Q (F0 m 13 ls []) := by
          intro nF
          induction nF with
          | zero => intro i b1 hm; exact absurd hm (Nat.not_lt_zero _)
          | succ nF ih13 =>
            intro i b1 hm hi hbs H locs jP jD jS ls jl
            refine lv_iload jx jb d_CountsRule_takeExcess_13 (lv_at jl 5 rfl) ?_
            refine lv_sipush (v := iZ 256) jx jb d_CountsRule_takeExcess_15 (by decide) ?_
            refine z_icmp_ge (tgt := 42) jx jb d_CountsRule_takeExcess_18 (by decide) ⟨⟨by omega, by omega⟩, ⟨by decide, by decide⟩⟩ (fun hc18 => ?_) (fun hc18 => ?_)
            ·
              refine lv_aload_n jx jb d_CountsRule_takeExcess_42 rfl (lv_at jl 1 rfl) ?_
              refine lv_iload jx jb d_CountsRule_takeExcess_43 (lv_at jl 4 rfl) ?_
              refine lv_dup2_11 jx jb d_CountsRule_takeExcess_45 rfl rfl ?_
              refine z_iald jx jb jK.1 jP 1 0 rfl rfl b1 (by omega) d_CountsRule_takeExcess_46 ?_
              refine lv_iconst (v := iZ 1) jx jb d_CountsRule_takeExcess_47 rfl ?_
              refine z_isub jx jb d_CountsRule_takeExcess_48 ?_
              refine z_iast jx jb jK.1 jP jD jS 1 0 rfl rfl b1 (by omega) d_CountsRule_takeExcess_49 (fun H locs jP jD jS => ?_)
              have jP : va_P D classes [(h, .inr (2, [.ref u1, .ref u2, .int (iZ rl)])), (q, .inl (cI, 256, .inl (zA (zu d2 b1 ((d2 b1) - 1)))))] H := jP
              have jD : va_D A [(h, .inr (2, [.ref u1, .ref u2, .int (iZ rl)])), (q, .inl (cI, 256, .inl (zA (zu d2 b1 ((d2 b1) - 1)))))] := jD
              refine lv_iinc (v := iZ ((k : Int) + 1)) (lv' := [(3, .int (iZ ((k : Int) + 1))), (0, .ref h), (1, .ref q), (2, .int (iZ x)), (4, .int (iZ (b1 : Int))), (5, .int (iZ (i : Int)))]) jx jb d_CountsRule_takeExcess_50 jl (k := 3) rfl (iZ_add _ _) (by decide) rfl (fun ls jl => ?_)
              refine lv_goto (tgt := 2) jx jb d_CountsRule_takeExcess_53 (by decide) ?_
              exact ih2 (k + 1) (zu d2 b1 ((d2 b1) - 1)) (by omega) (by first | assumption | omega) (tx_s h1 (by omega) hbs) _ _ (jP.sub [0, 1] rfl) (jD.sub [0, 1] (by decide) rfl) jS _ (lv_sub jl [1, 2, 3, 0] rfl)
            ·
              refine lv_aload_n jx jb d_CountsRule_takeExcess_21 rfl (lv_at jl 1 rfl) ?_
              refine lv_iload jx jb d_CountsRule_takeExcess_22 (lv_at jl 5 rfl) ?_
              refine z_iald jx jb jK.1 jP 1 0 rfl rfl i (by omega) d_CountsRule_takeExcess_24 ?_
              refine lv_aload_n jx jb d_CountsRule_takeExcess_25 rfl (lv_at jl 1 rfl) ?_
              refine lv_iload jx jb d_CountsRule_takeExcess_26 (lv_at jl 4 rfl) ?_
              refine z_iald jx jb jK.1 jP 1 0 rfl rfl b1 (by omega) d_CountsRule_takeExcess_28 ?_
              refine z_icmp_le (tgt := 36) jx jb d_CountsRule_takeExcess_29 (by decide) ⟨⟨by have := tx_b hdr hk h1 i (by omega); omega, by have := tx_b hdr hk h1 i (by omega); omega⟩, ⟨by have := tx_b hdr hk h1 b1 (by omega); omega, by have := tx_b hdr hk h1 b1 (by omega); omega⟩⟩ (fun hc29 => ?_) (fun hc29 => ?_)
              ·
                refine lv_iinc (v := iZ ((i : Int) + 1)) (lv' := [(5, .int (iZ ((i : Int) + 1))), (0, .ref h), (1, .ref q), (2, .int (iZ x)), (3, .int (iZ (k : Int))), (4, .int (iZ (b1 : Int)))]) jx jb d_CountsRule_takeExcess_36 jl (k := 5) rfl (iZ_add _ _) (by decide) rfl (fun ls jl => ?_)
                refine lv_goto (tgt := 13) jx jb d_CountsRule_takeExcess_39 (by decide) ?_
                exact ih13 (i + 1) b1 (by omega) (by omega) (by first | exact mx_t hbs hc29 | exact mx_f hbs hc29) _ _ (jP.sub [0, 1] rfl) (jD.sub [0, 1] (by decide) rfl) jS _ (lv_sub jl [1, 2, 3, 4, 5, 0] rfl)
              ·
                refine lv_iload jx jb d_CountsRule_takeExcess_32 (lv_at jl 5 rfl) ?_
                refine lv_istore (lv' := [(4, .int (iZ (i : Int))), (0, .ref h), (1, .ref q), (2, .int (iZ x)), (3, .int (iZ (k : Int))), (5, .int (iZ (i : Int)))]) jx jb d_CountsRule_takeExcess_34 jl (by decide) rfl (fun ls jl => ?_)
                refine lv_iinc (v := iZ ((i : Int) + 1)) (lv' := [(5, .int (iZ ((i : Int) + 1))), (4, .int (iZ (i : Int))), (0, .ref h), (1, .ref q), (2, .int (iZ x)), (3, .int (iZ (k : Int)))]) jx jb d_CountsRule_takeExcess_36 jl (k := 5) rfl (iZ_add _ _) (by decide) rfl (fun ls jl => ?_)
                refine lv_goto (tgt := 13) jx jb d_CountsRule_takeExcess_39 (by decide) ?_
                exact ih13 (i + 1) i (by omega) (by omega) (by first | exact mx_t hbs hc29 | exact mx_f hbs hc29) _ _ (jP.sub [0, 1] rfl) (jD.sub [0, 1] (by decide) rfl) jS _ (lv_sub jl [2, 3, 4, 5, 1, 0] rfl)
        exact hloop13 ((256 - 1) + 1) 1 0 (Nat.lt_succ_self _) (by first | assumption | omega) (mx_1) _ _ (jP.sub [0, 1] rfl) (jD.sub [0, 1] (by decide) rfl) jS _ (lv_sub jl [2, 3, 4, 5, 1, 0] rfl)
  exact hloop2 ((x.toNat - 0) + 1) 0 fp (Nat.lt_succ_self _) (by first | assumption | omega) (rfl) _ _ (jP.sub [0, 1] rfl) (jD.sub [0, 1] (by decide) rfl) jS _ (lv_sub jl [1, 2, 3, 0] rfl)
