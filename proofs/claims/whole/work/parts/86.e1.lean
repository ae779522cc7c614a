theorem ln_RowCoder_52 : Cond.methodLinkNest R_RowCoder 52 y_SC_exponent R_SC ∈ lw_tbl := List.mem_of_getElem? (i := 462) (by decide +kernel)
theorem lk_RowCoder_57 : Cond.methodLink R_RowCoder 57 y_Row_number ∈ zT := zT_of (List.mem_of_getElem? (i := 463) (by decide +kernel)) rfl
theorem lk_RowCoder_61 : Cond.methodLink R_RowCoder 61 y_Share_symbolOf ∈ zT := zT_of (List.mem_of_getElem? (i := 464) (by decide +kernel)) rfl
theorem lk_RowCoder_64 : Cond.methodLink R_RowCoder 64 y_Row_add ∈ zT := zT_of (List.mem_of_getElem? (i := 465) (by decide +kernel)) rfl
theorem lk_RowCoder_68 : Cond.methodLink R_RowCoder 68 y_Share_bitsOf ∈ zT := zT_of (List.mem_of_getElem? (i := 466) (by decide +kernel)) rfl
theorem lk_RowCoder_71 : Cond.methodLink R_RowCoder 71 y_Share_baseOf ∈ zT := zT_of (List.mem_of_getElem? (i := 467) (by decide +kernel)) rfl
theorem cd_RowCoder_takeRow : Cond.code y_RowCoder_takeRow b_RowCoder_takeRow 10 (some .int) ∈ zT := zT_of (List.mem_of_getElem? (i := 461) (by decide +kernel)) rfl
theorem hd_RowCoder_takeRow : y_RowCoder_takeRow.cls ≠ "java/lang/invoke/MethodHandle" ∧ y_RowCoder_takeRow.cls ≠ "java/lang/invoke/VarHandle" ∧ (parseMethodDescriptor y_RowCoder_takeRow.desc).map (fun d => d.parameters.length) = some 5 := by decide +kernel
theorem lk_SC_147 : Cond.methodLink R_SC 147 y_RowCoder_takeRow ∈ zT := zT_of (List.mem_of_getElem? (i := 459) (by decide +kernel)) rfl
theorem st_RowCoder_takeRow : Cond.static y_RowCoder_takeRow ∈ zT := zT_of (List.mem_of_getElem? (i := 460) (by decide +kernel)) rfl
theorem d_RowCoder_takeRow_0 : decode b_RowCoder_takeRow 0 = .ok (.aload 4, 2) := by decide +kernel
theorem d_RowCoder_takeRow_2 : decode b_RowCoder_takeRow 2 = .ok (.invokevirtual 22, 3) := by decide +kernel
theorem d_RowCoder_takeRow_5 : decode b_RowCoder_takeRow 5 = .ok (.aload_n 0, 1) := by decide +kernel
theorem d_RowCoder_takeRow_6 : decode b_RowCoder_takeRow 6 = .ok (.invokevirtual 7, 3) := by decide +kernel
theorem d_RowCoder_takeRow_9 : decode b_RowCoder_takeRow 9 = .ok (.iconst 1, 1) := by decide +kernel
theorem d_RowCoder_takeRow_10 : decode b_RowCoder_takeRow 10 = .ok (.isub, 1) := by decide +kernel
theorem d_RowCoder_takeRow_11 : decode b_RowCoder_takeRow 11 = .ok (.istore 5, 2) := by decide +kernel
theorem d_RowCoder_takeRow_13 : decode b_RowCoder_takeRow 13 = .ok (.bipush 8, 2) := by decide +kernel
theorem d_RowCoder_takeRow_15 : decode b_RowCoder_takeRow 15 = .ok (.iload 5, 2) := by decide +kernel
theorem d_RowCoder_takeRow_17 : decode b_RowCoder_takeRow 17 = .ok (.iload_n 1, 1) := by decide +kernel
theorem d_RowCoder_takeRow_18 : decode b_RowCoder_takeRow 18 = .ok (.isub, 1) := by decide +kernel
theorem d_RowCoder_takeRow_19 : decode b_RowCoder_takeRow 19 = .ok (.imul, 1) := by decide +kernel
theorem d_RowCoder_takeRow_20 : decode b_RowCoder_takeRow 20 = .ok (.aload_n 0, 1) := by decide +kernel
theorem d_RowCoder_takeRow_21 : decode b_RowCoder_takeRow 21 = .ok (.iload 5, 2) := by decide +kernel
theorem d_RowCoder_takeRow_23 : decode b_RowCoder_takeRow 23 = .ok (.invokevirtual 13, 3) := by decide +kernel
theorem d_RowCoder_takeRow_26 : decode b_RowCoder_takeRow 26 = .ok (.invokestatic 52, 3) := by decide +kernel
theorem d_RowCoder_takeRow_29 : decode b_RowCoder_takeRow 29 = .ok (.iadd, 1) := by decide +kernel
theorem d_RowCoder_takeRow_30 : decode b_RowCoder_takeRow 30 = .ok (.aload_n 3, 1) := by decide +kernel
theorem d_RowCoder_takeRow_31 : decode b_RowCoder_takeRow 31 = .ok (.invokevirtual 39, 3) := by decide +kernel
theorem d_RowCoder_takeRow_34 : decode b_RowCoder_takeRow 34 = .ok (.isub, 1) := by decide +kernel
theorem d_RowCoder_takeRow_35 : decode b_RowCoder_takeRow 35 = .ok (.istore 6, 2) := by decide +kernel
theorem d_RowCoder_takeRow_37 : decode b_RowCoder_takeRow 37 = .ok (.iload 6, 2) := by decide +kernel
theorem d_RowCoder_takeRow_39 : decode b_RowCoder_takeRow 39 = .ok (.ifCond .ge 6, 3) := by decide +kernel
theorem d_RowCoder_takeRow_42 : decode b_RowCoder_takeRow 42 = .ok (.bipush (-3), 2) := by decide +kernel
theorem d_RowCoder_takeRow_44 : decode b_RowCoder_takeRow 44 = .ok (.ireturn, 1) := by decide +kernel
theorem d_RowCoder_takeRow_45 : decode b_RowCoder_takeRow 45 = .ok (.aload_n 0, 1) := by decide +kernel
theorem d_RowCoder_takeRow_46 : decode b_RowCoder_takeRow 46 = .ok (.iload_n 1, 1) := by decide +kernel
theorem d_RowCoder_takeRow_47 : decode b_RowCoder_takeRow 47 = .ok (.iload 6, 2) := by decide +kernel
theorem d_RowCoder_takeRow_49 : decode b_RowCoder_takeRow 49 = .ok (.aload_n 3, 1) := by decide +kernel
theorem d_RowCoder_takeRow_50 : decode b_RowCoder_takeRow 50 = .ok (.invokevirtual 39, 3) := by decide +kernel
theorem d_RowCoder_takeRow_53 : decode b_RowCoder_takeRow 53 = .ok (.invokevirtual 57, 3) := by decide +kernel
theorem d_RowCoder_takeRow_56 : decode b_RowCoder_takeRow 56 = .ok (.istore 7, 2) := by decide +kernel
theorem d_RowCoder_takeRow_58 : decode b_RowCoder_takeRow 58 = .ok (.aload 4, 2) := by decide +kernel
theorem d_RowCoder_takeRow_60 : decode b_RowCoder_takeRow 60 = .ok (.aload_n 3, 1) := by decide +kernel
theorem d_RowCoder_takeRow_61 : decode b_RowCoder_takeRow 61 = .ok (.iload 7, 2) := by decide +kernel
theorem d_RowCoder_takeRow_63 : decode b_RowCoder_takeRow 63 = .ok (.invokevirtual 61, 3) := by decide +kernel
theorem d_RowCoder_takeRow_66 : decode b_RowCoder_takeRow 66 = .ok (.invokevirtual 64, 3) := by decide +kernel
theorem d_RowCoder_takeRow_69 : decode b_RowCoder_takeRow 69 = .ok (.iconst 1, 1) := by decide +kernel
theorem d_RowCoder_takeRow_70 : decode b_RowCoder_takeRow 70 = .ok (.istore 8, 2) := by decide +kernel
theorem d_RowCoder_takeRow_72 : decode b_RowCoder_takeRow 72 = .ok (.iload 8, 2) := by decide +kernel
theorem d_RowCoder_takeRow_74 : decode b_RowCoder_takeRow 74 = .ok (.iload_n 2, 1) := by decide +kernel
theorem d_RowCoder_takeRow_75 : decode b_RowCoder_takeRow 75 = .ok (.if_icmp .ge 61, 3) := by decide +kernel
theorem d_RowCoder_takeRow_78 : decode b_RowCoder_takeRow 78 = .ok (.aload_n 3, 1) := by decide +kernel
theorem d_RowCoder_takeRow_79 : decode b_RowCoder_takeRow 79 = .ok (.iload 7, 2) := by decide +kernel
theorem d_RowCoder_takeRow_81 : decode b_RowCoder_takeRow 81 = .ok (.invokevirtual 68, 3) := by decide +kernel
theorem d_RowCoder_takeRow_84 : decode b_RowCoder_takeRow 84 = .ok (.istore 9, 2) := by decide +kernel
theorem d_RowCoder_takeRow_86 : decode b_RowCoder_takeRow 86 = .ok (.iload 6, 2) := by decide +kernel
theorem d_RowCoder_takeRow_88 : decode b_RowCoder_takeRow 88 = .ok (.iload 9, 2) := by decide +kernel
theorem d_RowCoder_takeRow_90 : decode b_RowCoder_takeRow 90 = .ok (.isub, 1) := by decide +kernel
theorem d_RowCoder_takeRow_91 : decode b_RowCoder_takeRow 91 = .ok (.istore 6, 2) := by decide +kernel
theorem d_RowCoder_takeRow_93 : decode b_RowCoder_takeRow 93 = .ok (.iload 6, 2) := by decide +kernel
theorem d_RowCoder_takeRow_95 : decode b_RowCoder_takeRow 95 = .ok (.ifCond .ge 6, 3) := by decide +kernel
theorem d_RowCoder_takeRow_98 : decode b_RowCoder_takeRow 98 = .ok (.bipush (-3), 2) := by decide +kernel
theorem d_RowCoder_takeRow_100 : decode b_RowCoder_takeRow 100 = .ok (.ireturn, 1) := by decide +kernel
theorem d_RowCoder_takeRow_101 : decode b_RowCoder_takeRow 101 = .ok (.aload_n 3, 1) := by decide +kernel
theorem d_RowCoder_takeRow_102 : decode b_RowCoder_takeRow 102 = .ok (.iload 7, 2) := by decide +kernel
theorem d_RowCoder_takeRow_104 : decode b_RowCoder_takeRow 104 = .ok (.invokevirtual 71, 3) := by decide +kernel
theorem d_RowCoder_takeRow_107 : decode b_RowCoder_takeRow 107 = .ok (.aload_n 0, 1) := by decide +kernel
theorem d_RowCoder_takeRow_108 : decode b_RowCoder_takeRow 108 = .ok (.iload_n 1, 1) := by decide +kernel
theorem d_RowCoder_takeRow_109 : decode b_RowCoder_takeRow 109 = .ok (.iload 6, 2) := by decide +kernel
theorem d_RowCoder_takeRow_111 : decode b_RowCoder_takeRow 111 = .ok (.iload 9, 2) := by decide +kernel
theorem d_RowCoder_takeRow_113 : decode b_RowCoder_takeRow 113 = .ok (.invokevirtual 57, 3) := by decide +kernel
theorem d_RowCoder_takeRow_116 : decode b_RowCoder_takeRow 116 = .ok (.iadd, 1) := by decide +kernel
theorem d_RowCoder_takeRow_117 : decode b_RowCoder_takeRow 117 = .ok (.istore 7, 2) := by decide +kernel
theorem d_RowCoder_takeRow_119 : decode b_RowCoder_takeRow 119 = .ok (.aload 4, 2) := by decide +kernel
theorem d_RowCoder_takeRow_121 : decode b_RowCoder_takeRow 121 = .ok (.aload_n 3, 1) := by decide +kernel
theorem d_RowCoder_takeRow_122 : decode b_RowCoder_takeRow 122 = .ok (.iload 7, 2) := by decide +kernel
theorem d_RowCoder_takeRow_124 : decode b_RowCoder_takeRow 124 = .ok (.invokevirtual 61, 3) := by decide +kernel
theorem d_RowCoder_takeRow_127 : decode b_RowCoder_takeRow 127 = .ok (.invokevirtual 64, 3) := by decide +kernel
theorem d_RowCoder_takeRow_130 : decode b_RowCoder_takeRow 130 = .ok (.iinc 8 1, 3) := by decide +kernel
theorem d_RowCoder_takeRow_133 : decode b_RowCoder_takeRow 133 = .ok (.goto (-61), 3) := by decide +kernel
theorem d_RowCoder_takeRow_136 : decode b_RowCoder_takeRow 136 = .ok (.iload 6, 2) := by decide +kernel
theorem d_RowCoder_takeRow_138 : decode b_RowCoder_takeRow 138 = .ok (.ifCond .le 8, 3) := by decide +kernel
theorem d_RowCoder_takeRow_141 : decode b_RowCoder_takeRow 141 = .ok (.bipush (-4), 2) := by decide +kernel
theorem d_RowCoder_takeRow_143 : decode b_RowCoder_takeRow 143 = .ok (.goto 4, 3) := by decide +kernel
theorem d_RowCoder_takeRow_146 : decode b_RowCoder_takeRow 146 = .ok (.iload_n 2, 1) := by decide +kernel
theorem d_RowCoder_takeRow_147 : decode b_RowCoder_takeRow 147 = .ok (.ireturn, 1) := by decide +kernel
theorem d_SC_decode_0 : decode b_SC_decode 0 = .ok (.aload_n 0, 1) := by decide +kernel
theorem d_SC_decode_1 : decode b_SC_decode 1 = .ok (.getfield 26, 3) := by decide +kernel
theorem d_SC_decode_4 : decode b_SC_decode 4 = .ok (.invokevirtual 91, 3) := by decide +kernel
theorem d_SC_decode_7 : decode b_SC_decode 7 = .ok (.ifCond .eq 15, 3) := by decide +kernel
theorem d_SC_decode_10 : decode b_SC_decode 10 = .ok (.iload_n 1, 1) := by decide +kernel
theorem d_SC_decode_11 : decode b_SC_decode 11 = .ok (.iconst 1, 1) := by decide +kernel
theorem d_SC_decode_12 : decode b_SC_decode 12 = .ok (.if_icmp .lt 10, 3) := by decide +kernel
theorem d_SC_decode_15 : decode b_SC_decode 15 = .ok (.iload_n 1, 1) := by decide +kernel
theorem d_SC_decode_16 : decode b_SC_decode 16 = .ok (.sipush 6000, 3) := by decide +kernel
theorem d_SC_decode_19 : decode b_SC_decode 19 = .ok (.if_icmp .le 5, 3) := by decide +kernel
theorem d_SC_decode_22 : decode b_SC_decode 22 = .ok (.iconst (-1), 1) := by decide +kernel
theorem d_SC_decode_23 : decode b_SC_decode 23 = .ok (.ireturn, 1) := by decide +kernel
theorem d_SC_decode_24 : decode b_SC_decode 24 = .ok (.aload_n 0, 1) := by decide +kernel
theorem d_SC_decode_25 : decode b_SC_decode 25 = .ok (.getfield 55, 3) := by decide +kernel
theorem d_SC_decode_28 : decode b_SC_decode 28 = .ok (.aload_n 0, 1) := by decide +kernel
theorem d_SC_decode_29 : decode b_SC_decode 29 = .ok (.getfield 19, 3) := by decide +kernel
theorem d_SC_decode_32 : decode b_SC_decode 32 = .ok (.invokevirtual 43, 3) := by decide +kernel
theorem d_SC_decode_35 : decode b_SC_decode 35 = .ok (.if_icmp .ge 22, 3) := by decide +kernel
theorem d_SC_decode_38 : decode b_SC_decode 38 = .ok (.aload_n 0, 1) := by decide +kernel
theorem d_SC_decode_39 : decode b_SC_decode 39 = .ok (.getfield 19, 3) := by decide +kernel
theorem d_SC_decode_42 : decode b_SC_decode 42 = .ok (.aload_n 0, 1) := by decide +kernel
theorem d_SC_decode_43 : decode b_SC_decode 43 = .ok (.getfield 19, 3) := by decide +kernel
theorem d_SC_decode_46 : decode b_SC_decode 46 = .ok (.invokevirtual 43, 3) := by decide +kernel
theorem d_SC_decode_49 : decode b_SC_decode 49 = .ok (.iconst 1, 1) := by decide +kernel
theorem d_SC_decode_50 : decode b_SC_decode 50 = .ok (.isub, 1) := by decide +kernel
theorem d_SC_decode_51 : decode b_SC_decode 51 = .ok (.invokevirtual 73, 3) := by decide +kernel
theorem d_SC_decode_54 : decode b_SC_decode 54 = .ok (.ifCond .ne 6, 3) := by decide +kernel
theorem d_SC_decode_57 : decode b_SC_decode 57 = .ok (.bipush (-2), 2) := by decide +kernel
theorem d_SC_decode_59 : decode b_SC_decode 59 = .ok (.ireturn, 1) := by decide +kernel
theorem d_SC_decode_60 : decode b_SC_decode 60 = .ok (.aload_n 0, 1) := by decide +kernel
theorem d_SC_decode_61 : decode b_SC_decode 61 = .ok (.getfield 19, 3) := by decide +kernel
theorem d_SC_decode_64 : decode b_SC_decode 64 = .ok (.aload_n 0, 1) := by decide +kernel
theorem d_SC_decode_65 : decode b_SC_decode 65 = .ok (.getfield 55, 3) := by decide +kernel
theorem d_SC_decode_68 : decode b_SC_decode 68 = .ok (.iload_n 1, 1) := by decide +kernel
theorem d_SC_decode_69 : decode b_SC_decode 69 = .ok (.aload_n 0, 1) := by decide +kernel
theorem d_SC_decode_70 : decode b_SC_decode 70 = .ok (.getfield 26, 3) := by decide +kernel
theorem d_SC_decode_73 : decode b_SC_decode 73 = .ok (.aload_n 0, 1) := by decide +kernel
theorem d_SC_decode_74 : decode b_SC_decode 74 = .ok (.getfield 40, 3) := by decide +kernel
theorem d_SC_decode_77 : decode b_SC_decode 77 = .ok (.invokestatic 147, 3) := by decide +kernel
theorem d_SC_decode_80 : decode b_SC_decode 80 = .ok (.istore_n 2, 1) := by decide +kernel
theorem d_SC_decode_81 : decode b_SC_decode 81 = .ok (.iload_n 2, 1) := by decide +kernel
theorem d_SC_decode_82 : decode b_SC_decode 82 = .ok (.ifCond .le 7, 3) := by decide +kernel
theorem d_SC_decode_85 : decode b_SC_decode 85 = .ok (.aload_n 0, 1) := by decide +kernel
theorem d_SC_decode_86 : decode b_SC_decode 86 = .ok (.invokevirtual 144, 3) := by decide +kernel
theorem d_SC_decode_89 : decode b_SC_decode 89 = .ok (.iload_n 2, 1) := by decide +kernel
theorem d_SC_decode_90 : decode b_SC_decode 90 = .ok (.ireturn, 1) := by decide +kernel
abbrev rm_RC_takeRow : Room := { frames := 3, cells := 0, slots := 0, locals := 62 }
set_option maxHeartbeats 4000000 in
set_option maxRecDepth 100000 in
theorem c_RC_takeRow (l : Launch) (D : va_G) (cI cB cZ : ClassId) (sz : Nat) (hz : Nat) (hbz : Nat) (Lz : Int) (hdz : Int) (hnz : Int) (ovz : Int) (tsz : Int) (tbz : Int) (f2 : Nat → Int) (qs : Nat) (pP : Nat) (pS : Nat) (pB : Nat) (pA : Nat) (pC : Nat) (pF : Nat) (pN : Nat) (o : Nat) (gP : Nat → Int) (gS : Nat → Int) (gB : Nat → Int) (gA : Nat → Int) (gC : Nat → Int) (gF : Nat → Int) (h : Nat) (hb : Nat) (L : Int) (hd : Int) (hn : Int) (ov : Int) (ts : Int) (tb : Int) (f : Nat → Int) (a : Int) (x : Int) (hLz : 0 ≤ Lz ∧ Lz ≤ 6000 ∧ 0 ≤ a ∧ a < Lz) (hpr : ∀ k, k < 256 → -1 ≤ gP k ∧ gP k ≤ 65536) (ho : 5 ≤ o ∧ o ≤ 12) (hsh : shOK gP gS gB gA gC gF o) (hsum : cum gP 256 = 2 ^ o) (hlast : (f2 (Lz - 1).toNat % 256) ≠ 0) (hfr : ∀ k, -128 ≤ f k ∧ f k < 128) (hx1 : 1 ≤ x ∧ x ≤ 6000) : Met l y_RowCoder_takeRow (.code y_RowCoder_takeRow b_RowCoder_takeRow 10 (some .int) :: zT) rm_RC_takeRow (zPc D classes (TY cI cB cZ) [(hz, .inr (0, [.ref hbz, .int (iZ Lz), .int (iZ hdz), .int (iZ hnz), .int (iZ ovz), .int (iZ tsz), .int (iZ tbz)])), (hbz, .inl (cB, 6000, .inl (zA f2))), (qs, .inr (1, [.ref pP, .ref pS, .ref pB, .ref pA, .ref pC, .ref pF, .ref pN, .int (iZ (o : Int))])), (pS, .inl (cI, 4096, .inl (zA gS))), (pB, .inl (cI, 4096, .inl (zA gB))), (pA, .inl (cI, 4096, .inl (zA gA))), (h, .inr (0, [.ref hb, .int (iZ L), .int (iZ hd), .int (iZ hn), .int (iZ ov), .int (iZ ts), .int (iZ tb)])), (hb, .inl (cB, 6000, .inl (zA f)))] sz [.ref hz, .int (iZ a), .int (iZ x), .ref qs, .ref h]) (zFi (S := Int × Int × Int × Int × (Nat → Int)) D classes (fun z u => (z = -3 ∧ (dcS gP gS o (fun k => f2 k % 256) (8 * a.toNat) (8 * (Lz - 1 - a) + (zlog (f2 (Lz - 1).toNat % 256) : Int) - (o : Int)) (x.toNat - 1)).1 < 0 ∧ (∀ k, -128 ≤ u.2.2.2.2 k ∧ u.2.2.2.2 k < 128)) ∨ (z = -4 ∧ 0 < (dcS gP gS o (fun k => f2 k % 256) (8 * a.toNat) (8 * (Lz - 1 - a) + (zlog (f2 (Lz - 1).toNat % 256) : Int) - (o : Int)) (x.toNat - 1)).1 ∧ (∀ k, -128 ≤ u.2.2.2.2 k ∧ u.2.2.2.2 k < 128)) ∨ (z = x ∧ (dcS gP gS o (fun k => f2 k % 256) (8 * a.toNat) (8 * (Lz - 1 - a) + (zlog (f2 (Lz - 1).toNat % 256) : Int) - (o : Int)) (x.toNat - 1)).1 = 0 ∧ u.1 = x ∧ (∀ i : Nat, i < x.toNat → u.2.2.2.2 i % 256 = gS (dcS gP gS o (fun k => f2 k % 256) (8 * a.toNat) (8 * (Lz - 1 - a) + (zlog (f2 (Lz - 1).toNat % 256) : Int) - (o : Int)) i).2) ∧ (∀ k, -128 ≤ u.2.2.2.2 k ∧ u.2.2.2.2 k < 128))) (fun u => [(hz, .inr (0, [.ref hbz, .int (iZ Lz), .int (iZ hdz), .int (iZ hnz), .int (iZ ovz), .int (iZ tsz), .int (iZ tbz)])), (hbz, .inl (cB, 6000, .inl (zA f2))), (qs, .inr (1, [.ref pP, .ref pS, .ref pB, .ref pA, .ref pC, .ref pF, .ref pN, .int (iZ (o : Int))])), (pS, .inl (cI, 4096, .inl (zA gS))), (pB, .inl (cI, 4096, .inl (zA gB))), (pA, .inl (cI, 4096, .inl (zA gA))), (h, .inr (0, [.ref hb, .int (iZ u.1), .int (iZ u.2.1), .int (iZ u.2.2.1), .int (iZ u.2.2.2.1), .int (iZ ts), .int (iZ tb)])), (hb, .inl (cB, 6000, .inl (zA u.2.2.2.2)))]) (va_A [(hz, .inr (0, [.ref hbz, .int (iZ Lz), .int (iZ hdz), .int (iZ hnz), .int (iZ ovz), .int (iZ tsz), .int (iZ tbz)])), (hbz, .inl (cB, 6000, .inl (zA f2))), (qs, .inr (1, [.ref pP, .ref pS, .ref pB, .ref pA, .ref pC, .ref pF, .ref pN, .int (iZ (o : Int))])), (pS, .inl (cI, 4096, .inl (zA gS))), (pB, .inl (cI, 4096, .inl (zA gB))), (pA, .inl (cI, 4096, .inl (zA gA))), (h, .inr (0, [.ref hb, .int (iZ L), .int (iZ hd), .int (iZ hn), .int (iZ ov), .int (iZ ts), .int (iZ tb)])), (hb, .inl (cB, 6000, .inl (zA f)))] sz)) 0 0 (va_A [(hz, .inr (0, [.ref hbz, .int (iZ Lz), .int (iZ hdz), .int (iZ hnz), .int (iZ ovz), .int (iZ tsz), .int (iZ tbz)])), (hbz, .inl (cB, 6000, .inl (zA f2))), (qs, .inr (1, [.ref pP, .ref pS, .ref pB, .ref pA, .ref pC, .ref pF, .ref pN, .int (iZ (o : Int))])), (pS, .inl (cI, 4096, .inl (zA gS))), (pB, .inl (cI, 4096, .inl (zA gB))), (pA, .inl (cI, 4096, .inl (zA gA))), (h, .inr (0, [.ref hb, .int (iZ L), .int (iZ hd), .int (iZ hn), .int (iZ ov), .int (iZ ts), .int (iZ tb)])), (hb, .inl (cB, 6000, .inl (zA f)))] sz) := by
  refine z_ofi (by decide) (Nat.le_of_ble_eq_true rfl) (Or.inl rfl) ?_
  intro p e s m args below meth c A Q E jA jK jret H locs jP jD jS ls jl
  obtain ⟨jx, jb, jrt, jml, jown, jts, jlk⟩ := E
  have jown : s.vm.findClass R_RowCoder = some m.cls := jown
  have hp12 := p2_le ho.2
  have hp0 := p2_pos o
  have hnum := sh_num hsh hpr hsum
  have hz8 := zlog8 (y := (f2 (Lz - 1).toNat % 256)) (by omega)
  have h00 := dc_00 (gP := gP) (gS := gS) (o := o) (b := (fun k => f2 k % 256)) (q0 := 8 * a.toNat) (u0 := (8 * (Lz - 1 - a) + (zlog (f2 (Lz - 1).toNat % 256) : Int) - (o : Int)))
  have hst0 := dc_st (b := (fun k => f2 k % 256)) (q0 := 8 * a.toNat) (u0 := (8 * (Lz - 1 - a) + (zlog (f2 (Lz - 1).toNat % 256) : Int) - (o : Int))) (j := 0) hnum
  have jl : lv_has ls 10 [(0, .ref hz), (1, .int (iZ a)), (2, .int (iZ x)), (3, .ref qs), (4, .ref h)] := jl
  refine lv_aload jx jb d_RowCoder_takeRow_0 (lv_at jl 4 rfl) ?_
  refine z_backv (wr := [(hz, .inr (0, [.ref hbz, .int (iZ Lz), .int (iZ hdz), .int (iZ hnz), .int (iZ ovz), .int (iZ tsz), .int (iZ tbz)])), (hbz, .inl (cB, 6000, .inl (zA f2))), (qs, .inr (1, [.ref pP, .ref pS, .ref pB, .ref pA, .ref pC, .ref pF, .ref pN, .int (iZ (o : Int))])), (pS, .inl (cI, 4096, .inl (zA gS))), (pB, .inl (cI, 4096, .inl (zA gB))), (pA, .inl (cI, 4096, .inl (zA gA))), (hb, .inl (cB, 6000, .inl (zA f)))]) jP jD jS jA [6] [0, 1, 2, 3, 4, 5, 7] rfl rfl (by decide) (by decide) (va_runV (As := []) (rest := []) ⟨jx, jb, jml, jown, jts⟩ (c_Row_empty l D cI cB cZ H.size h hb L hd hn ov ts tb) (zc_V 0 jts cd_Row_empty lk_RowCoder_22 im_Row_empty se_Row_empty in_Row hd_Row_empty ⟨Nat.le_of_ble_eq_true rfl, Nat.le_of_ble_eq_true rfl⟩ rfl rfl) (z_preV jK jP jD [6] (by decide) rfl rfl rfl rfl) rfl rfl jl.1 rfl (lv_room (Nat.le_of_ble_eq_true rfl)) d_RowCoder_takeRow_2 ⟨Nat.le_of_ble_eq_true rfl, Nat.le_of_ble_eq_true rfl⟩) (fun u2 H locs hu2 jP jD jS => ?_)
  have jP : va_P D classes [(hz, .inr (0, [.ref hbz, .int (iZ Lz), .int (iZ hdz), .int (iZ hnz), .int (iZ ovz), .int (iZ tsz), .int (iZ tbz)])), (hbz, .inl (cB, 6000, .inl (zA f2))), (qs, .inr (1, [.ref pP, .ref pS, .ref pB, .ref pA, .ref pC, .ref pF, .ref pN, .int (iZ (o : Int))])), (pS, .inl (cI, 4096, .inl (zA gS))), (pB, .inl (cI, 4096, .inl (zA gB))), (pA, .inl (cI, 4096, .inl (zA gA))), (h, .inr (0, [.ref hb, .int (iZ 0), .int (iZ 0), .int (iZ 0), .int (iZ 0), .int (iZ ts), .int (iZ tb)])), (hb, .inl (cB, 6000, .inl (zA f)))] H := jP.sub [0, 1, 2, 3, 4, 5, 7, 6] rfl
  have jD : va_D A [(hz, .inr (0, [.ref hbz, .int (iZ Lz), .int (iZ hdz), .int (iZ hnz), .int (iZ ovz), .int (iZ tsz), .int (iZ tbz)])), (hbz, .inl (cB, 6000, .inl (zA f2))), (qs, .inr (1, [.ref pP, .ref pS, .ref pB, .ref pA, .ref pC, .ref pF, .ref pN, .int (iZ (o : Int))])), (pS, .inl (cI, 4096, .inl (zA gS))), (pB, .inl (cI, 4096, .inl (zA gB))), (pA, .inl (cI, 4096, .inl (zA gA))), (h, .inr (0, [.ref hb, .int (iZ 0), .int (iZ 0), .int (iZ 0), .int (iZ 0), .int (iZ ts), .int (iZ tb)])), (hb, .inl (cB, 6000, .inl (zA f)))] := jD.sub [0, 1, 2, 3, 4, 5, 7, 6] (by decide) rfl
  refine lv_aload_n jx jb d_RowCoder_takeRow_5 rfl (lv_at jl 0 rfl) ?_
  refine z_backe (va_runV (As := []) (rest := []) ⟨jx, jb, jml, jown, jts⟩ (c_Row_length l D cI cB cZ hz hbz Lz hdz hnz ovz tsz tbz) (zc_V 0 jts cd_Row_length lk_RowCoder_7 im_Row_length se_Row_length in_Row hd_Row_length ⟨Nat.le_of_ble_eq_true rfl, Nat.le_of_ble_eq_true rfl⟩ rfl rfl) (z_preVR jK jP [0] rfl rfl rfl) rfl rfl jl.1 rfl (lv_room (Nat.le_of_ble_eq_true rfl)) d_RowCoder_takeRow_6 ⟨Nat.le_of_ble_eq_true rfl, Nat.le_of_ble_eq_true rfl⟩) ?_
  refine lv_iconst (v := iZ 1) jx jb d_RowCoder_takeRow_9 rfl ?_
  refine z_isub jx jb d_RowCoder_takeRow_10 ?_
  refine lv_istore (lv' := [(5, .int (iZ (Lz - 1))), (0, .ref hz), (1, .int (iZ a)), (2, .int (iZ x)), (3, .ref qs), (4, .ref h)]) jx jb d_RowCoder_takeRow_11 jl (by decide) rfl (fun ls jl => ?_)
  refine lv_bipush (v := iZ 8) jx jb d_RowCoder_takeRow_13 (by decide) ?_
  refine lv_iload jx jb d_RowCoder_takeRow_15 (lv_at jl 0 rfl) ?_
  refine lv_iload_n jx jb d_RowCoder_takeRow_17 rfl (lv_at jl 2 rfl) ?_
  refine z_isub jx jb d_RowCoder_takeRow_18 ?_
  refine z_imul jx jb d_RowCoder_takeRow_19 ?_
  refine lv_aload_n jx jb d_RowCoder_takeRow_20 rfl (lv_at jl 1 rfl) ?_
  refine lv_iload jx jb d_RowCoder_takeRow_21 (lv_at jl 0 rfl) ?_
  refine z_backe (va_runV (As := [.int (iZ (Lz - 1))]) (rest := [.int (iZ (8 * ((Lz - 1) - a)))]) ⟨jx, jb, jml, jown, jts⟩ (c_Row_byteOrZero l D cI cB cZ hz hbz Lz hdz hnz ovz tsz tbz f2 (Lz - 1) (by first | assumption | omega) (by first | assumption | omega)) (zc_V 1 jts cd_Row_byteOrZero lk_RowCoder_13 im_Row_byteOrZero se_Row_byteOrZero in_Row hd_Row_byteOrZero ⟨Nat.le_of_ble_eq_true rfl, Nat.le_of_ble_eq_true rfl⟩ rfl rfl) (z_preVR jK jP [0, 1] rfl rfl rfl) rfl rfl jl.1 rfl (lv_room (Nat.le_of_ble_eq_true rfl)) d_RowCoder_takeRow_23 ⟨Nat.le_of_ble_eq_true rfl, Nat.le_of_ble_eq_true rfl⟩) ?_
  refine z_top (f2 (Lz - 1).toNat % 256) (rb8_in (by omega) (by omega)) ?_
  refine z_backe (va_runSN (As := [.int (iZ (f2 (Lz - 1).toNat % 256))]) (rest := [.int (iZ (8 * ((Lz - 1) - a)))]) ⟨jx, jb, jml, jown, jts⟩ (c_exponent l D cI cB cZ (f2 (Lz - 1).toNat % 256) (by first | assumption | omega)) (zc_SN 1 jts cd_SC_exponent (jK.nest ln_RowCoder_52 rfl) st_SC_exponent in_SC hd_SC_exponent ⟨Nat.le_of_ble_eq_true rfl, Nat.le_of_ble_eq_true rfl⟩ rfl rfl) (z_preSR jK jP [] rfl) rfl rfl jl.1 rfl (lv_room (Nat.le_of_ble_eq_true rfl)) d_RowCoder_takeRow_26 ⟨Nat.le_of_ble_eq_true rfl, Nat.le_of_ble_eq_true rfl⟩) ?_
  refine z_iadd jx jb d_RowCoder_takeRow_29 ?_
  refine lv_aload_n jx jb d_RowCoder_takeRow_30 rfl (lv_at jl 4 rfl) ?_
  refine z_backe (va_runV (As := []) (rest := [.int (iZ ((8 * ((Lz - 1) - a)) + (zlog (f2 (Lz - 1).toNat % 256) : Int)))]) ⟨jx, jb, jml, jown, jts⟩ (c_Share_order l D cI cB cZ qs pP pS pB pA pC pF pN o) (zc_V 0 jts cd_Share_order lk_RowCoder_39 im_Share_order se_Share_order in_Share hd_Share_order ⟨Nat.le_of_ble_eq_true rfl, Nat.le_of_ble_eq_true rfl⟩ rfl rfl) (z_preVR jK jP [2] rfl rfl rfl) rfl rfl jl.1 rfl (lv_room (Nat.le_of_ble_eq_true rfl)) d_RowCoder_takeRow_31 ⟨Nat.le_of_ble_eq_true rfl, Nat.le_of_ble_eq_true rfl⟩) ?_
  refine z_isub jx jb d_RowCoder_takeRow_34 ?_
  refine z_top ((dcS gP gS o (fun k => f2 k % 256) (8 * a.toNat) (8 * (Lz - 1 - a) + (zlog (f2 (Lz - 1).toNat % 256) : Int) - (o : Int)) 0).1) (rfl) ?_
  refine lv_istore (lv' := [(6, .int (iZ ((dcS gP gS o (fun k => f2 k % 256) (8 * a.toNat) (8 * (Lz - 1 - a) + (zlog (f2 (Lz - 1).toNat % 256) : Int) - (o : Int)) 0).1))), (5, .int (iZ (Lz - 1))), (0, .ref hz), (1, .int (iZ a)), (2, .int (iZ x)), (3, .ref qs), (4, .ref h)]) jx jb d_RowCoder_takeRow_35 jl (by decide) rfl (fun ls jl => ?_)
  refine lv_iload jx jb d_RowCoder_takeRow_37 (lv_at jl 0 rfl) ?_
  refine z_if_ge (tgt := 45) jx jb d_RowCoder_takeRow_39 (by decide) ⟨by omega, by omega⟩ (fun hc39 => ?_) (fun hc39 => ?_)
  ·
    refine lv_aload_n jx jb d_RowCoder_takeRow_45 rfl (lv_at jl 2 rfl) ?_
    refine lv_iload_n jx jb d_RowCoder_takeRow_46 rfl (lv_at jl 3 rfl) ?_
    refine lv_iload jx jb d_RowCoder_takeRow_47 (lv_at jl 0 rfl) ?_
    refine lv_aload_n jx jb d_RowCoder_takeRow_49 rfl (lv_at jl 5 rfl) ?_
    refine z_backe (va_runV (As := []) (rest := [.int (iZ ((dcS gP gS o (fun k => f2 k % 256) (8 * a.toNat) (8 * (Lz - 1 - a) + (zlog (f2 (Lz - 1).toNat % 256) : Int) - (o : Int)) 0).1)), .int (iZ a), .ref hz]) ⟨jx, jb, jml, jown, jts⟩ (c_Share_order l D cI cB cZ qs pP pS pB pA pC pF pN o) (zc_V 0 jts cd_Share_order lk_RowCoder_39 im_Share_order se_Share_order in_Share hd_Share_order ⟨Nat.le_of_ble_eq_true rfl, Nat.le_of_ble_eq_true rfl⟩ rfl rfl) (z_preVR jK jP [2] rfl rfl rfl) rfl rfl jl.1 rfl (lv_room (Nat.le_of_ble_eq_true rfl)) d_RowCoder_takeRow_50 ⟨Nat.le_of_ble_eq_true rfl, Nat.le_of_ble_eq_true rfl⟩) ?_
    refine z_backe (va_runV (As := [.int (iZ a), .int (iZ ((dcS gP gS o (fun k => f2 k % 256) (8 * a.toNat) (8 * (Lz - 1 - a) + (zlog (f2 (Lz - 1).toNat % 256) : Int) - (o : Int)) 0).1)), .int (iZ (o : Int))]) (rest := []) ⟨jx, jb, jml, jown, jts⟩ (c_Row_number l D cI cB cZ hz hbz Lz hdz hnz ovz tsz tbz f2 a ((dcS gP gS o (fun k => f2 k % 256) (8 * a.toNat) (8 * (Lz - 1 - a) + (zlog (f2 (Lz - 1).toNat % 256) : Int) - (o : Int)) 0).1) o (by omega) (by omega) (by omega)) (zc_V 3 jts cd_Row_number lk_RowCoder_57 im_Row_number se_Row_number in_Row hd_Row_number ⟨Nat.le_of_ble_eq_true rfl, Nat.le_of_ble_eq_true rfl⟩ rfl rfl) (z_preVR jK jP [0, 1] rfl rfl rfl) rfl rfl jl.1 rfl (lv_room (Nat.le_of_ble_eq_true rfl)) d_RowCoder_takeRow_53 ⟨Nat.le_of_ble_eq_true rfl, Nat.le_of_ble_eq_true rfl⟩) ?_
    refine z_top ((dcS gP gS o (fun k => f2 k % 256) (8 * a.toNat) (8 * (Lz - 1 - a) + (zlog (f2 (Lz - 1).toNat % 256) : Int) - (o : Int)) 0).2 : Int) ((rNum_nb (by omega) (by omega) (by omega)).trans (dc_0 (by omega))) ?_
    refine lv_istore (lv' := [(7, .int (iZ ((dcS gP gS o (fun k => f2 k % 256) (8 * a.toNat) (8 * (Lz - 1 - a) + (zlog (f2 (Lz - 1).toNat % 256) : Int) - (o : Int)) 0).2 : Int))), (6, .int (iZ ((dcS gP gS o (fun k => f2 k % 256) (8 * a.toNat) (8 * (Lz - 1 - a) + (zlog (f2 (Lz - 1).toNat % 256) : Int) - (o : Int)) 0).1))), (5, .int (iZ (Lz - 1))), (0, .ref hz), (1, .int (iZ a)), (2, .int (iZ x)), (3, .ref qs), (4, .ref h)]) jx jb d_RowCoder_takeRow_56 jl (by decide) rfl (fun ls jl => ?_)
    refine lv_aload jx jb d_RowCoder_takeRow_58 (lv_at jl 7 rfl) ?_
    refine lv_aload_n jx jb d_RowCoder_takeRow_60 rfl (lv_at jl 6 rfl) ?_
    refine lv_iload jx jb d_RowCoder_takeRow_61 (lv_at jl 0 rfl) ?_
    refine z_backe (va_runV (As := [.int (iZ ((dcS gP gS o (fun k => f2 k % 256) (8 * a.toNat) (8 * (Lz - 1 - a) + (zlog (f2 (Lz - 1).toNat % 256) : Int) - (o : Int)) 0).2 : Int))]) (rest := [.ref h]) ⟨jx, jb, jml, jown, jts⟩ (c_Share_symbolOf l D cI cB cZ qs pP pS pB pA pC pF pN o gS ((dcS gP gS o (fun k => f2 k % 256) (8 * a.toNat) (8 * (Lz - 1 - a) + (zlog (f2 (Lz - 1).toNat % 256) : Int) - (o : Int)) 0).2 : Int) (ho.2) (by omega) (⟨Int.natCast_nonneg _, hst0⟩)) (zc_V 1 jts cd_Share_symbolOf lk_RowCoder_61 im_Share_symbolOf se_Share_symbolOf in_Share hd_Share_symbolOf ⟨Nat.le_of_ble_eq_true rfl, Nat.le_of_ble_eq_true rfl⟩ rfl rfl) (z_preVR jK jP [2, 3] rfl rfl rfl) rfl rfl jl.1 rfl (lv_room (Nat.le_of_ble_eq_true rfl)) d_RowCoder_takeRow_63 ⟨Nat.le_of_ble_eq_true rfl, Nat.le_of_ble_eq_true rfl⟩) ?_
    refine z_top (gS (dcS gP gS o (fun k => f2 k % 256) (8 * a.toNat) (8 * (Lz - 1 - a) + (zlog (f2 (Lz - 1).toNat % 256) : Int) - (o : Int)) 0).2) (rfl) ?_
    refine z_backv (wr := [(hz, .inr (0, [.ref hbz, .int (iZ Lz), .int (iZ hdz), .int (iZ hnz), .int (iZ ovz), .int (iZ tsz), .int (iZ tbz)])), (hbz, .inl (cB, 6000, .inl (zA f2))), (qs, .inr (1, [.ref pP, .ref pS, .ref pB, .ref pA, .ref pC, .ref pF, .ref pN, .int (iZ (o : Int))])), (pS, .inl (cI, 4096, .inl (zA gS))), (pB, .inl (cI, 4096, .inl (zA gB))), (pA, .inl (cI, 4096, .inl (zA gA)))]) jP jD jS jA [6, 7] [0, 1, 2, 3, 4, 5] rfl rfl (by decide) (by decide) (va_runV (As := [.int (iZ (gS (dcS gP gS o (fun k => f2 k % 256) (8 * a.toNat) (8 * (Lz - 1 - a) + (zlog (f2 (Lz - 1).toNat % 256) : Int) - (o : Int)) 0).2))]) (rest := []) ⟨jx, jb, jml, jown, jts⟩ (c_Row_add l D cI cB cZ H.size h hb 0 0 0 0 ts tb f (gS (dcS gP gS o (fun k => f2 k % 256) (8 * a.toNat) (8 * (Lz - 1 - a) + (zlog (f2 (Lz - 1).toNat % 256) : Int) - (o : Int)) 0).2) (by decide)) (zc_V 1 jts cd_Row_add lk_RowCoder_64 im_Row_add se_Row_add in_Row hd_Row_add ⟨Nat.le_of_ble_eq_true rfl, Nat.le_of_ble_eq_true rfl⟩ rfl rfl) (z_preV jK jP jD [6, 7] (by decide) rfl rfl rfl rfl) rfl rfl jl.1 rfl (lv_room (Nat.le_of_ble_eq_true rfl)) d_RowCoder_takeRow_66 ⟨Nat.le_of_ble_eq_true rfl, Nat.le_of_ble_eq_true rfl⟩) (fun u66 H locs hu66 jP jD jS => ?_)
    obtain ⟨L1_66, ov1_66, f1_66⟩ := u66
    have jP : va_P D classes [(hz, .inr (0, [.ref hbz, .int (iZ Lz), .int (iZ hdz), .int (iZ hnz), .int (iZ ovz), .int (iZ tsz), .int (iZ tbz)])), (hbz, .inl (cB, 6000, .inl (zA f2))), (qs, .inr (1, [.ref pP, .ref pS, .ref pB, .ref pA, .ref pC, .ref pF, .ref pN, .int (iZ (o : Int))])), (pS, .inl (cI, 4096, .inl (zA gS))), (pB, .inl (cI, 4096, .inl (zA gB))), (pA, .inl (cI, 4096, .inl (zA gA))), (h, .inr (0, [.ref hb, .int (iZ L1_66), .int (iZ 0), .int (iZ 0), .int (iZ ov1_66), .int (iZ ts), .int (iZ tb)])), (hb, .inl (cB, 6000, .inl (zA f1_66)))] H := jP.sub [0, 1, 2, 3, 4, 5, 6, 7] rfl
    have jD : va_D A [(hz, .inr (0, [.ref hbz, .int (iZ Lz), .int (iZ hdz), .int (iZ hnz), .int (iZ ovz), .int (iZ tsz), .int (iZ tbz)])), (hbz, .inl (cB, 6000, .inl (zA f2))), (qs, .inr (1, [.ref pP, .ref pS, .ref pB, .ref pA, .ref pC, .ref pF, .ref pN, .int (iZ (o : Int))])), (pS, .inl (cI, 4096, .inl (zA gS))), (pB, .inl (cI, 4096, .inl (zA gB))), (pA, .inl (cI, 4096, .inl (zA gA))), (h, .inr (0, [.ref hb, .int (iZ L1_66), .int (iZ 0), .int (iZ 0), .int (iZ ov1_66), .int (iZ ts), .int (iZ tb)])), (hb, .inl (cB, 6000, .inl (zA f1_66)))] := jD.sub [0, 1, 2, 3, 4, 5, 6, 7] (by decide) rfl
    refine lv_iconst (v := iZ 1) jx jb d_RowCoder_takeRow_69 rfl ?_
    refine z_top (((0 : Nat) : Int) + 1) (rfl) ?_
    refine lv_istore (lv' := [(8, .int (iZ (((0 : Nat) : Int) + 1))), (7, .int (iZ ((dcS gP gS o (fun k => f2 k % 256) (8 * a.toNat) (8 * (Lz - 1 - a) + (zlog (f2 (Lz - 1).toNat % 256) : Int) - (o : Int)) 0).2 : Int))), (6, .int (iZ ((dcS gP gS o (fun k => f2 k % 256) (8 * a.toNat) (8 * (Lz - 1 - a) + (zlog (f2 (Lz - 1).toNat % 256) : Int) - (o : Int)) 0).1))), (5, .int (iZ (Lz - 1))), (0, .ref hz), (1, .int (iZ a)), (2, .int (iZ x)), (3, .ref qs), (4, .ref h)]) jx jb d_RowCoder_takeRow_70 jl (by decide) rfl (fun ls jl => ?_)
    have hloop72 : ∀ (nF : Nat) (j : Nat) (L3 : Int) (ov3 : Int) (f3 : Nat → Int), x.toNat - j < nF → ((j : Int) + 1 ≤ x) → (0 ≤ (dcS gP gS o (fun k => f2 k % 256) (8 * a.toNat) (8 * (Lz - 1 - a) + (zlog (f2 (Lz - 1).toNat % 256) : Int) - (o : Int)) j).1) → (trI (fun i => gS (dcS gP gS o (fun k => f2 k % 256) (8 * a.toNat) (8 * (Lz - 1 - a) + (zlog (f2 (Lz - 1).toNat % 256) : Int) - (o : Int)) i).2) (j + 1) L3 f3) → ∀ (H : Heap) (locs : List Loc), va_P D classes [(hz, .inr (0, [.ref hbz, .int (iZ Lz), .int (iZ hdz), .int (iZ hnz), .int (iZ ovz), .int (iZ tsz), .int (iZ tbz)])), (hbz, .inl (cB, 6000, .inl (zA f2))), (qs, .inr (1, [.ref pP, .ref pS, .ref pB, .ref pA, .ref pC, .ref pF, .ref pN, .int (iZ (o : Int))])), (pS, .inl (cI, 4096, .inl (zA gS))), (pB, .inl (cI, 4096, .inl (zA gB))), (pA, .inl (cI, 4096, .inl (zA gA))), (h, .inr (0, [.ref hb, .int (iZ L3), .int (iZ 0), .int (iZ 0), .int (iZ ov3), .int (iZ ts), .int (iZ tb)])), (hb, .inl (cB, 6000, .inl (zA f3)))] H → va_D A [(hz, .inr (0, [.ref hbz, .int (iZ Lz), .int (iZ hdz), .int (iZ hnz), .int (iZ ovz), .int (iZ tsz), .int (iZ tbz)])), (hbz, .inl (cB, 6000, .inl (zA f2))), (qs, .inr (1, [.ref pP, .ref pS, .ref pB, .ref pA, .ref pC, .ref pF, .ref pN, .int (iZ (o : Int))])), (pS, .inl (cI, 4096, .inl (zA gS))), (pB, .inl (cI, 4096, .inl (zA gB))), (pA, .inl (cI, 4096, .inl (zA gA))), (h, .inr (0, [.ref hb, .int (iZ L3), .int (iZ 0), .int (iZ 0), .int (iZ ov3), .int (iZ ts), .int (iZ tb)])), (hb, .inl (cB, 6000, .inl (zA f3)))] → va_S A s.heap H locs → ∀ ls : Array Slot, lv_has ls 10 [(0, .ref hz), (1, .int (iZ a)), (2, .int (iZ x)), (3, .ref qs), (4, .ref h), (6, .int (iZ ((dcS gP gS o (fun k => f2 k % 256) (8 * a.toNat) (8 * (Lz - 1 - a) + (zlog (f2 (Lz - 1).toNat % 256) : Int) - (o : Int)) j).1))), (7, .int (iZ ((dcS gP gS o (fun k => f2 k % 256) (8 * a.toNat) (8 * (Lz - 1 - a) + (zlog (f2 (Lz - 1).toNat % 256) : Int) - (o : Int)) j).2 : Int))), (8, .int (iZ ((j : Int) + 1)))] → W p l e rm_RC_takeRow s m args below meth c H locs 0 0 Q (F0 m 72 ls []) := by
      intro nF
      induction nF with
      | zero => intro j L3 ov3 f3 hm; exact absurd hm (Nat.not_lt_zero _)
      | succ nF ih72 =>
        intro j L3 ov3 f3 hm hj hu h2 H locs jP jD jS ls jl
        have hL3 := h2.1
        refine lv_iload jx jb d_RowCoder_takeRow_72 (lv_at jl 7 rfl) ?_
        refine lv_iload_n jx jb d_RowCoder_takeRow_74 rfl (lv_at jl 2 rfl) ?_
        refine z_icmp_ge (tgt := 136) jx jb d_RowCoder_takeRow_75 (by decide) ⟨⟨by omega, by omega⟩, ⟨by omega, by omega⟩⟩ (fun hc75 => ?_) (fun hc75 => ?_)
        ·
          refine lv_iload jx jb d_RowCoder_takeRow_136 (lv_at jl 5 rfl) ?_
          have hm0 := dc_mono (gP := gP) (gS := gS) (o := o) (b := (fun k => f2 k % 256)) (q0 := 8 * a.toNat) (u0 := (8 * (Lz - 1 - a) + (zlog (f2 (Lz - 1).toNat % 256) : Int) - (o : Int))) (i := 0) (j := j) (Nat.zero_le _)
          refine z_if_le (tgt := 146) jx jb d_RowCoder_takeRow_138 (by decide) ⟨by omega, by omega⟩ (fun hc138 => ?_) (fun hc138 => ?_)
          ·
            refine lv_iload_n jx jb d_RowCoder_takeRow_146 rfl (lv_at jl 2 rfl) ?_
            exact jret _ _ _ (L3, 0, 0, ov3, f3) _ _ (Or.inl rfl) (dr_post (by omega) hx1.1 h2 hu (by first | exact Or.inl ⟨rfl, hc138⟩ | exact Or.inr ⟨rfl, hc138⟩)) (jP.sub [0, 1, 2, 3, 4, 5, 6, 7] rfl) (jD.sub [0, 1, 2, 3, 4, 5, 6, 7] (by decide) rfl) jS d_RowCoder_takeRow_147
          ·
            refine lv_bipush (v := iZ (-4)) jx jb d_RowCoder_takeRow_141 (by decide) ?_
            refine lv_goto (tgt := 147) jx jb d_RowCoder_takeRow_143 (by decide) ?_
            exact jret _ _ _ (L3, 0, 0, ov3, f3) _ _ (Or.inl rfl) (dr_post (by omega) hx1.1 h2 hu (by first | exact Or.inl ⟨rfl, hc138⟩ | exact Or.inr ⟨rfl, hc138⟩)) (jP.sub [0, 1, 2, 3, 4, 5, 6, 7] rfl) (jD.sub [0, 1, 2, 3, 4, 5, 6, 7] (by decide) rfl) jS d_RowCoder_takeRow_147
        ·
          have hst := dc_st (b := (fun k => f2 k % 256)) (q0 := 8 * a.toNat) (u0 := (8 * (Lz - 1 - a) + (zlog (f2 (Lz - 1).toNat % 256) : Int) - (o : Int))) (j := j) hnum
          have hnk := hnum _ hst
          have hba := bA_b hnk.1 hnk.2
          have hs1 := dc_s1 (gP := gP) (gS := gS) (o := o) (b := (fun k => f2 k % 256)) (q0 := 8 * a.toNat) (u0 := (8 * (Lz - 1 - a) + (zlog (f2 (Lz - 1).toNat % 256) : Int) - (o : Int))) (j := j)
          have hm0 := dc_mono (gP := gP) (gS := gS) (o := o) (b := (fun k => f2 k % 256)) (q0 := 8 * a.toNat) (u0 := (8 * (Lz - 1 - a) + (zlog (f2 (Lz - 1).toNat % 256) : Int) - (o : Int))) (i := 0) (j := j) (Nat.zero_le _)
          have hst1 := dc_st (b := (fun k => f2 k % 256)) (q0 := 8 * a.toNat) (u0 := (8 * (Lz - 1 - a) + (zlog (f2 (Lz - 1).toNat % 256) : Int) - (o : Int))) (j := (j + 1)) hnum
          refine lv_aload_n jx jb d_RowCoder_takeRow_78 rfl (lv_at jl 3 rfl) ?_
          refine lv_iload jx jb d_RowCoder_takeRow_79 (lv_at jl 6 rfl) ?_
          refine z_backe (va_runV (As := [.int (iZ ((dcS gP gS o (fun k => f2 k % 256) (8 * a.toNat) (8 * (Lz - 1 - a) + (zlog (f2 (Lz - 1).toNat % 256) : Int) - (o : Int)) j).2 : Int))]) (rest := []) ⟨jx, jb, jml, jown, jts⟩ (c_Share_bitsOf l D cI cB cZ qs pP pS pB pA pC pF pN o gB ((dcS gP gS o (fun k => f2 k % 256) (8 * a.toNat) (8 * (Lz - 1 - a) + (zlog (f2 (Lz - 1).toNat % 256) : Int) - (o : Int)) j).2 : Int) (ho.2) (by omega) (⟨Int.natCast_nonneg _, hst⟩)) (zc_V 1 jts cd_Share_bitsOf lk_RowCoder_68 im_Share_bitsOf se_Share_bitsOf in_Share hd_Share_bitsOf ⟨Nat.le_of_ble_eq_true rfl, Nat.le_of_ble_eq_true rfl⟩ rfl rfl) (z_preVR jK jP [2, 4] rfl rfl rfl) rfl rfl jl.1 rfl (lv_room (Nat.le_of_ble_eq_true rfl)) d_RowCoder_takeRow_81 ⟨Nat.le_of_ble_eq_true rfl, Nat.le_of_ble_eq_true rfl⟩) ?_
          refine z_top (bW gP gS o (dcS gP gS o (fun k => f2 k % 256) (8 * a.toNat) (8 * (Lz - 1 - a) + (zlog (f2 (Lz - 1).toNat % 256) : Int) - (o : Int)) j).2 : Int) ((sh_tab hsh hnk hst).1) ?_
          refine lv_istore (lv' := [(9, .int (iZ (bW gP gS o (dcS gP gS o (fun k => f2 k % 256) (8 * a.toNat) (8 * (Lz - 1 - a) + (zlog (f2 (Lz - 1).toNat % 256) : Int) - (o : Int)) j).2 : Int))), (0, .ref hz), (1, .int (iZ a)), (2, .int (iZ x)), (3, .ref qs), (4, .ref h), (6, .int (iZ ((dcS gP gS o (fun k => f2 k % 256) (8 * a.toNat) (8 * (Lz - 1 - a) + (zlog (f2 (Lz - 1).toNat % 256) : Int) - (o : Int)) j).1))), (7, .int (iZ ((dcS gP gS o (fun k => f2 k % 256) (8 * a.toNat) (8 * (Lz - 1 - a) + (zlog (f2 (Lz - 1).toNat % 256) : Int) - (o : Int)) j).2 : Int))), (8, .int (iZ ((j : Int) + 1)))]) jx jb d_RowCoder_takeRow_84 jl (by decide) rfl (fun ls jl => ?_)
          refine lv_iload jx jb d_RowCoder_takeRow_86 (lv_at jl 6 rfl) ?_
          refine lv_iload jx jb d_RowCoder_takeRow_88 (lv_at jl 0 rfl) ?_
          refine z_isub jx jb d_RowCoder_takeRow_90 ?_
          refine z_top ((dcS gP gS o (fun k => f2 k % 256) (8 * a.toNat) (8 * (Lz - 1 - a) + (zlog (f2 (Lz - 1).toNat % 256) : Int) - (o : Int)) (j + 1)).1) (rfl) ?_
          refine lv_istore (lv' := [(6, .int (iZ ((dcS gP gS o (fun k => f2 k % 256) (8 * a.toNat) (8 * (Lz - 1 - a) + (zlog (f2 (Lz - 1).toNat % 256) : Int) - (o : Int)) (j + 1)).1))), (9, .int (iZ (bW gP gS o (dcS gP gS o (fun k => f2 k % 256) (8 * a.toNat) (8 * (Lz - 1 - a) + (zlog (f2 (Lz - 1).toNat % 256) : Int) - (o : Int)) j).2 : Int))), (0, .ref hz), (1, .int (iZ a)), (2, .int (iZ x)), (3, .ref qs), (4, .ref h), (7, .int (iZ ((dcS gP gS o (fun k => f2 k % 256) (8 * a.toNat) (8 * (Lz - 1 - a) + (zlog (f2 (Lz - 1).toNat % 256) : Int) - (o : Int)) j).2 : Int))), (8, .int (iZ ((j : Int) + 1)))]) jx jb d_RowCoder_takeRow_91 jl (by decide) rfl (fun ls jl => ?_)
          refine lv_iload jx jb d_RowCoder_takeRow_93 (lv_at jl 0 rfl) ?_
          refine z_if_ge (tgt := 101) jx jb d_RowCoder_takeRow_95 (by decide) ⟨by omega, by omega⟩ (fun hc95 => ?_) (fun hc95 => ?_)
          ·
            refine lv_aload_n jx jb d_RowCoder_takeRow_101 rfl (lv_at jl 5 rfl) ?_
            refine lv_iload jx jb d_RowCoder_takeRow_102 (lv_at jl 7 rfl) ?_
            refine z_backe (va_runV (As := [.int (iZ ((dcS gP gS o (fun k => f2 k % 256) (8 * a.toNat) (8 * (Lz - 1 - a) + (zlog (f2 (Lz - 1).toNat % 256) : Int) - (o : Int)) j).2 : Int))]) (rest := []) ⟨jx, jb, jml, jown, jts⟩ (c_Share_baseOf l D cI cB cZ qs pP pS pB pA pC pF pN o gA ((dcS gP gS o (fun k => f2 k % 256) (8 * a.toNat) (8 * (Lz - 1 - a) + (zlog (f2 (Lz - 1).toNat % 256) : Int) - (o : Int)) j).2 : Int) (ho.2) (by omega) (⟨Int.natCast_nonneg _, hst⟩)) (zc_V 1 jts cd_Share_baseOf lk_RowCoder_71 im_Share_baseOf se_Share_baseOf in_Share hd_Share_baseOf ⟨Nat.le_of_ble_eq_true rfl, Nat.le_of_ble_eq_true rfl⟩ rfl rfl) (z_preVR jK jP [2, 5] rfl rfl rfl) rfl rfl jl.1 rfl (lv_room (Nat.le_of_ble_eq_true rfl)) d_RowCoder_takeRow_104 ⟨Nat.le_of_ble_eq_true rfl, Nat.le_of_ble_eq_true rfl⟩) ?_
            refine z_top (bA gP gS o (dcS gP gS o (fun k => f2 k % 256) (8 * a.toNat) (8 * (Lz - 1 - a) + (zlog (f2 (Lz - 1).toNat % 256) : Int) - (o : Int)) j).2) ((sh_tab hsh hnk hst).2) ?_
            refine lv_aload_n jx jb d_RowCoder_takeRow_107 rfl (lv_at jl 2 rfl) ?_
            refine lv_iload_n jx jb d_RowCoder_takeRow_108 rfl (lv_at jl 3 rfl) ?_
            refine lv_iload jx jb d_RowCoder_takeRow_109 (lv_at jl 0 rfl) ?_
            refine lv_iload jx jb d_RowCoder_takeRow_111 (lv_at jl 1 rfl) ?_
            refine z_backe (va_runV (As := [.int (iZ a), .int (iZ ((dcS gP gS o (fun k => f2 k % 256) (8 * a.toNat) (8 * (Lz - 1 - a) + (zlog (f2 (Lz - 1).toNat % 256) : Int) - (o : Int)) (j + 1)).1)), .int (iZ (bW gP gS o (dcS gP gS o (fun k => f2 k % 256) (8 * a.toNat) (8 * (Lz - 1 - a) + (zlog (f2 (Lz - 1).toNat % 256) : Int) - (o : Int)) j).2 : Int))]) (rest := [.int (iZ (bA gP gS o (dcS gP gS o (fun k => f2 k % 256) (8 * a.toNat) (8 * (Lz - 1 - a) + (zlog (f2 (Lz - 1).toNat % 256) : Int) - (o : Int)) j).2))]) ⟨jx, jb, jml, jown, jts⟩ (c_Row_number l D cI cB cZ hz hbz Lz hdz hnz ovz tsz tbz f2 a ((dcS gP gS o (fun k => f2 k % 256) (8 * a.toNat) (8 * (Lz - 1 - a) + (zlog (f2 (Lz - 1).toNat % 256) : Int) - (o : Int)) (j + 1)).1) (bW gP gS o (dcS gP gS o (fun k => f2 k % 256) (8 * a.toNat) (8 * (Lz - 1 - a) + (zlog (f2 (Lz - 1).toNat % 256) : Int) - (o : Int)) j).2) (by omega) (by omega) (by omega)) (zc_V 3 jts cd_Row_number lk_RowCoder_57 im_Row_number se_Row_number in_Row hd_Row_number ⟨Nat.le_of_ble_eq_true rfl, Nat.le_of_ble_eq_true rfl⟩ rfl rfl) (z_preVR jK jP [0, 1] rfl rfl rfl) rfl rfl jl.1 rfl (lv_room (Nat.le_of_ble_eq_true rfl)) d_RowCoder_takeRow_113 ⟨Nat.le_of_ble_eq_true rfl, Nat.le_of_ble_eq_true rfl⟩) ?_
            refine z_top (nbI (fun k => f2 k % 256) (8 * a.toNat + (dcS gP gS o (fun k => f2 k % 256) (8 * a.toNat) (8 * (Lz - 1 - a) + (zlog (f2 (Lz - 1).toNat % 256) : Int) - (o : Int)) (j + 1)).1.toNat) (bW gP gS o (dcS gP gS o (fun k => f2 k % 256) (8 * a.toNat) (8 * (Lz - 1 - a) + (zlog (f2 (Lz - 1).toNat % 256) : Int) - (o : Int)) j).2)) (rNum_nb (by omega) (by omega) (by omega)) ?_
            refine z_iadd jx jb d_RowCoder_takeRow_116 ?_
            refine z_top ((dcS gP gS o (fun k => f2 k % 256) (8 * a.toNat) (8 * (Lz - 1 - a) + (zlog (f2 (Lz - 1).toNat % 256) : Int) - (o : Int)) (j + 1)).2 : Int) ((dc_s2 hnk hc95).symm) ?_
            refine lv_istore (lv' := [(7, .int (iZ ((dcS gP gS o (fun k => f2 k % 256) (8 * a.toNat) (8 * (Lz - 1 - a) + (zlog (f2 (Lz - 1).toNat % 256) : Int) - (o : Int)) (j + 1)).2 : Int))), (6, .int (iZ ((dcS gP gS o (fun k => f2 k % 256) (8 * a.toNat) (8 * (Lz - 1 - a) + (zlog (f2 (Lz - 1).toNat % 256) : Int) - (o : Int)) (j + 1)).1))), (9, .int (iZ (bW gP gS o (dcS gP gS o (fun k => f2 k % 256) (8 * a.toNat) (8 * (Lz - 1 - a) + (zlog (f2 (Lz - 1).toNat % 256) : Int) - (o : Int)) j).2 : Int))), (0, .ref hz), (1, .int (iZ a)), (2, .int (iZ x)), (3, .ref qs), (4, .ref h), (8, .int (iZ ((j : Int) + 1)))]) jx jb d_RowCoder_takeRow_117 jl (by decide) rfl (fun ls jl => ?_)
            refine lv_aload jx jb d_RowCoder_takeRow_119 (lv_at jl 7 rfl) ?_
            refine lv_aload_n jx jb d_RowCoder_takeRow_121 rfl (lv_at jl 6 rfl) ?_
            refine lv_iload jx jb d_RowCoder_takeRow_122 (lv_at jl 0 rfl) ?_
            refine z_backe (va_runV (As := [.int (iZ ((dcS gP gS o (fun k => f2 k % 256) (8 * a.toNat) (8 * (Lz - 1 - a) + (zlog (f2 (Lz - 1).toNat % 256) : Int) - (o : Int)) (j + 1)).2 : Int))]) (rest := [.ref h]) ⟨jx, jb, jml, jown, jts⟩ (c_Share_symbolOf l D cI cB cZ qs pP pS pB pA pC pF pN o gS ((dcS gP gS o (fun k => f2 k % 256) (8 * a.toNat) (8 * (Lz - 1 - a) + (zlog (f2 (Lz - 1).toNat % 256) : Int) - (o : Int)) (j + 1)).2 : Int) (ho.2) (by omega) (⟨Int.natCast_nonneg _, hst1⟩)) (zc_V 1 jts cd_Share_symbolOf lk_RowCoder_61 im_Share_symbolOf se_Share_symbolOf in_Share hd_Share_symbolOf ⟨Nat.le_of_ble_eq_true rfl, Nat.le_of_ble_eq_true rfl⟩ rfl rfl) (z_preVR jK jP [2, 3] rfl rfl rfl) rfl rfl jl.1 rfl (lv_room (Nat.le_of_ble_eq_true rfl)) d_RowCoder_takeRow_124 ⟨Nat.le_of_ble_eq_true rfl, Nat.le_of_ble_eq_true rfl⟩) ?_
            refine z_top (gS (dcS gP gS o (fun k => f2 k % 256) (8 * a.toNat) (8 * (Lz - 1 - a) + (zlog (f2 (Lz - 1).toNat % 256) : Int) - (o : Int)) (j + 1)).2) (rfl) ?_
            refine z_backv (wr := [(hz, .inr (0, [.ref hbz, .int (iZ Lz), .int (iZ hdz), .int (iZ hnz), .int (iZ ovz), .int (iZ tsz), .int (iZ tbz)])), (hbz, .inl (cB, 6000, .inl (zA f2))), (qs, .inr (1, [.ref pP, .ref pS, .ref pB, .ref pA, .ref pC, .ref pF, .ref pN, .int (iZ (o : Int))])), (pS, .inl (cI, 4096, .inl (zA gS))), (pB, .inl (cI, 4096, .inl (zA gB))), (pA, .inl (cI, 4096, .inl (zA gA)))]) jP jD jS jA [6, 7] [0, 1, 2, 3, 4, 5] rfl rfl (by decide) (by decide) (va_runV (As := [.int (iZ (gS (dcS gP gS o (fun k => f2 k % 256) (8 * a.toNat) (8 * (Lz - 1 - a) + (zlog (f2 (Lz - 1).toNat % 256) : Int) - (o : Int)) (j + 1)).2))]) (rest := []) ⟨jx, jb, jml, jown, jts⟩ (c_Row_add l D cI cB cZ H.size h hb L3 0 0 ov3 ts tb f3 (gS (dcS gP gS o (fun k => f2 k % 256) (8 * a.toNat) (8 * (Lz - 1 - a) + (zlog (f2 (Lz - 1).toNat % 256) : Int) - (o : Int)) (j + 1)).2) (by omega)) (zc_V 1 jts cd_Row_add lk_RowCoder_64 im_Row_add se_Row_add in_Row hd_Row_add ⟨Nat.le_of_ble_eq_true rfl, Nat.le_of_ble_eq_true rfl⟩ rfl rfl) (z_preV jK jP jD [6, 7] (by decide) rfl rfl rfl rfl) rfl rfl jl.1 rfl (lv_room (Nat.le_of_ble_eq_true rfl)) d_RowCoder_takeRow_127 ⟨Nat.le_of_ble_eq_true rfl, Nat.le_of_ble_eq_true rfl⟩) (fun u127 H locs hu127 jP jD jS => ?_)
            obtain ⟨L1_127, ov1_127, f1_127⟩ := u127
            have jP : va_P D classes [(hz, .inr (0, [.ref hbz, .int (iZ Lz), .int (iZ hdz), .int (iZ hnz), .int (iZ ovz), .int (iZ tsz), .int (iZ tbz)])), (hbz, .inl (cB, 6000, .inl (zA f2))), (qs, .inr (1, [.ref pP, .ref pS, .ref pB, .ref pA, .ref pC, .ref pF, .ref pN, .int (iZ (o : Int))])), (pS, .inl (cI, 4096, .inl (zA gS))), (pB, .inl (cI, 4096, .inl (zA gB))), (pA, .inl (cI, 4096, .inl (zA gA))), (h, .inr (0, [.ref hb, .int (iZ L1_127), .int (iZ 0), .int (iZ 0), .int (iZ ov1_127), .int (iZ ts), .int (iZ tb)])), (hb, .inl (cB, 6000, .inl (zA f1_127)))] H := jP.sub [0, 1, 2, 3, 4, 5, 6, 7] rfl
            have jD : va_D A [(hz, .inr (0, [.ref hbz, .int (iZ Lz), .int (iZ hdz), .int (iZ hnz), .int (iZ ovz), .int (iZ tsz), .int (iZ tbz)])), (hbz, .inl (cB, 6000, .inl (zA f2))), (qs, .inr (1, [.ref pP, .ref pS, .ref pB, .ref pA, .ref pC, .ref pF, .ref pN, .int (iZ (o : Int))])), (pS, .inl (cI, 4096, .inl (zA gS))), (pB, .inl (cI, 4096, .inl (zA gB))), (pA, .inl (cI, 4096, .inl (zA gA))), (h, .inr (0, [.ref hb, .int (iZ L1_127), .int (iZ 0), .int (iZ 0), .int (iZ ov1_127), .int (iZ ts), .int (iZ tb)])), (hb, .inl (cB, 6000, .inl (zA f1_127)))] := jD.sub [0, 1, 2, 3, 4, 5, 6, 7] (by decide) rfl
            refine lv_iinc (v := iZ (((j + 1 : Nat) : Int) + 1)) (lv' := [(8, .int (iZ (((j + 1 : Nat) : Int) + 1))), (7, .int (iZ ((dcS gP gS o (fun k => f2 k % 256) (8 * a.toNat) (8 * (Lz - 1 - a) + (zlog (f2 (Lz - 1).toNat % 256) : Int) - (o : Int)) (j + 1)).2 : Int))), (6, .int (iZ ((dcS gP gS o (fun k => f2 k % 256) (8 * a.toNat) (8 * (Lz - 1 - a) + (zlog (f2 (Lz - 1).toNat % 256) : Int) - (o : Int)) (j + 1)).1))), (9, .int (iZ (bW gP gS o (dcS gP gS o (fun k => f2 k % 256) (8 * a.toNat) (8 * (Lz - 1 - a) + (zlog (f2 (Lz - 1).toNat % 256) : Int) - (o : Int)) j).2 : Int))), (0, .ref hz), (1, .int (iZ a)), (2, .int (iZ x)), (3, .ref qs), (4, .ref h)]) jx jb d_RowCoder_takeRow_130 jl (k := 8) rfl (by rw [show (((j + 1 : Nat) : Int) + 1) = ((j : Int) + 1) + 1 from by omega]; exact iZ_add _ _) (by decide) rfl (fun ls jl => ?_)
            refine lv_goto (tgt := 72) jx jb d_RowCoder_takeRow_133 (by decide) ?_
            exact ih72 (j + 1) L1_127 ov1_127 f1_127 (by omega) (by first | assumption | omega) (hc95) (tr_s h2 (by omega) (hsh.2.2.2 _ hst1) hu127) _ _ (jP.sub [0, 1, 2, 3, 4, 5, 6, 7] rfl) (jD.sub [0, 1, 2, 3, 4, 5, 6, 7] (by decide) rfl) jS _ (lv_sub jl [4, 5, 6, 7, 8, 2, 1, 0] rfl)
          ·
            refine lv_bipush (v := iZ (-3)) jx jb d_RowCoder_takeRow_98 (by decide) ?_
            exact jret _ _ _ (L3, 0, 0, ov3, f3) _ _ (Or.inl rfl) (Or.inl ⟨rfl, by have q := dc_mono (gP := gP) (gS := gS) (o := o) (b := (fun k => f2 k % 256)) (q0 := 8 * a.toNat) (u0 := (8 * (Lz - 1 - a) + (zlog (f2 (Lz - 1).toNat % 256) : Int) - (o : Int))) (i := (j + 1)) (j := (x.toNat - 1)) (by omega); omega, h2.2.2⟩) (jP.sub [0, 1, 2, 3, 4, 5, 6, 7] rfl) (jD.sub [0, 1, 2, 3, 4, 5, 6, 7] (by decide) rfl) jS d_RowCoder_takeRow_100
    exact hloop72 ((x.toNat - 0) + 1) 0 L1_66 ov1_66 f1_66 (Nat.lt_succ_self _) (by first | assumption | omega) (hc39) (tr_s (tr_0 hfr) (by decide) (hsh.2.2.2 _ hst0) hu66) _ _ (jP.sub [0, 1, 2, 3, 4, 5, 6, 7] rfl) (jD.sub [0, 1, 2, 3, 4, 5, 6, 7] (by decide) rfl) jS _ (lv_sub jl [4, 5, 6, 7, 8, 2, 1, 0] rfl)
  ·
    refine lv_bipush (v := iZ (-3)) jx jb d_RowCoder_takeRow_42 (by decide) ?_
    exact jret _ _ _ (0, 0, 0, 0, f) _ _ (Or.inl rfl) (Or.inl ⟨rfl, by have q := dc_mono (gP := gP) (gS := gS) (o := o) (b := (fun k => f2 k % 256)) (q0 := 8 * a.toNat) (u0 := (8 * (Lz - 1 - a) + (zlog (f2 (Lz - 1).toNat % 256) : Int) - (o : Int))) (i := 0) (j := (x.toNat - 1)) (Nat.zero_le _); omega, hfr⟩) (jP.sub [0, 1, 2, 3, 4, 5, 6, 7] rfl) (jD.sub [0, 1, 2, 3, 4, 5, 6, 7] (by decide) rfl) jS d_RowCoder_takeRow_44
abbrev rm_SC_decode : Room := { frames := 4, cells := 0, slots := 0, locals := 91 }
set_option maxHeartbeats 4000000 in
set_option maxRecDepth 100000 in
theorem c_SC_decode (l : Launch) (D : va_G) (cI cB cZ : ClassId) (sz : Nat) (g : Nat) (qc : Nat) (qp : Nat) (qi : Nat) (qs : Nat) (qr : Nat) (qo : Nat) (qx : Nat) (ps : Int) (pP : Nat) (pS : Nat) (pB : Nat) (pA : Nat) (pC : Nat) (pF : Nat) (pN : Nat) (o : Nat) (bi : Nat) (Li : Int) (hdi : Int) (hni : Int) (ovi : Int) (tsi : Int) (tbi : Int) (bo : Nat) (Lo : Int) (hdo : Int) (hno : Int) (ovo : Int) (tso : Int) (tbo : Int) (bx : Nat) (Lx : Int) (hdx : Int) (hnx : Int) (ovx : Int) (tsx : Int) (tbx : Int) (fi : Nat → Int) (fo : Nat → Int) (fx : Nat → Int) (gP : Nat → Int) (gS : Nat → Int) (gB : Nat → Int) (gA : Nat → Int) (gC : Nat → Int) (gF : Nat → Int) (x : Int) (hLi : 0 ≤ Li ∧ Li ≤ 6000) (hps : 0 ≤ ps ∧ ps ≤ Li) (hpr : ∀ k, k < 256 → -1 ≤ gP k ∧ gP k ≤ 65536) (ho : o = 0 ∨ (5 ≤ o ∧ o ≤ 12)) (hsh : 0 < o → shOK gP gS gB gA gC gF o) (hsum : 0 < o → cum gP 256 = 2 ^ o) (hfx : ∀ k, -128 ≤ fx k ∧ fx k < 128) (hx1 : -2147483648 ≤ x ∧ x < 2147483648) : Met l y_SC_decode (.code y_SC_decode b_SC_decode 3 (some .int) :: zT) rm_SC_decode (zPc D classes (TY cI cB cZ) [(g, .inr (3, [.ref qc, .ref qp, .ref qi, .ref qs, .ref qr, .ref qo, .ref qx, .int (iZ ps)])), (qi, .inr (0, [.ref bi, .int (iZ Li), .int (iZ hdi), .int (iZ hni), .int (iZ ovi), .int (iZ tsi), .int (iZ tbi)])), (bi, .inl (cB, 6000, .inl (zA fi))), (qs, .inr (1, [.ref pP, .ref pS, .ref pB, .ref pA, .ref pC, .ref pF, .ref pN, .int (iZ (o : Int))])), (pS, .inl (cI, 4096, .inl (zA gS))), (pB, .inl (cI, 4096, .inl (zA gB))), (pA, .inl (cI, 4096, .inl (zA gA))), (qo, .inr (0, [.ref bo, .int (iZ Lo), .int (iZ hdo), .int (iZ hno), .int (iZ ovo), .int (iZ tso), .int (iZ tbo)])), (bo, .inl (cB, 6000, .inl (zA fo))), (qx, .inr (0, [.ref bx, .int (iZ Lx), .int (iZ hdx), .int (iZ hnx), .int (iZ ovx), .int (iZ tsx), .int (iZ tbx)])), (bx, .inl (cB, 6000, .inl (zA fx)))] sz [.ref g, .int (iZ x)]) (zFi (S := Nat × Nat × Int × Int × Int × Int × (Nat → Int)) D classes (fun z u => (z = -1 ∧ (o = 0 ∨ x < 1 ∨ 6000 < x) ∧ (u.1 = qo ∧ u.2.1 = qx ∧ ∀ k, -128 ≤ u.2.2.2.2.2.2 k ∧ u.2.2.2.2.2.2 k < 128)) ∨ (z = -2 ∧ (0 < o ∧ 1 ≤ x ∧ x ≤ 6000) ∧ (ps = Li ∨ (ps < Li ∧ (fi (Li - 1).toNat % 256) = 0)) ∧ (u.1 = qo ∧ u.2.1 = qx ∧ ∀ k, -128 ≤ u.2.2.2.2.2.2 k ∧ u.2.2.2.2.2.2 k < 128)) ∨ (z = -3 ∧ (0 < o ∧ 1 ≤ x ∧ x ≤ 6000 ∧ ps < Li ∧ (fi (Li - 1).toNat % 256) ≠ 0) ∧ (dcS gP gS o (fun k => fi k % 256) (8 * ps.toNat) (8 * (Li - 1 - ps) + (zlog (fi (Li - 1).toNat % 256) : Int) - (o : Int)) (x.toNat - 1)).1 < 0 ∧ (u.1 = qo ∧ u.2.1 = qx ∧ ∀ k, -128 ≤ u.2.2.2.2.2.2 k ∧ u.2.2.2.2.2.2 k < 128)) ∨ (z = -4 ∧ (0 < o ∧ 1 ≤ x ∧ x ≤ 6000 ∧ ps < Li ∧ (fi (Li - 1).toNat % 256) ≠ 0) ∧ 0 < (dcS gP gS o (fun k => fi k % 256) (8 * ps.toNat) (8 * (Li - 1 - ps) + (zlog (fi (Li - 1).toNat % 256) : Int) - (o : Int)) (x.toNat - 1)).1 ∧ (u.1 = qo ∧ u.2.1 = qx ∧ ∀ k, -128 ≤ u.2.2.2.2.2.2 k ∧ u.2.2.2.2.2.2 k < 128)) ∨ (z = x ∧ (0 < o ∧ 1 ≤ x ∧ x ≤ 6000 ∧ ps < Li ∧ (fi (Li - 1).toNat % 256) ≠ 0) ∧ (dcS gP gS o (fun k => fi k % 256) (8 * ps.toNat) (8 * (Li - 1 - ps) + (zlog (fi (Li - 1).toNat % 256) : Int) - (o : Int)) (x.toNat - 1)).1 = 0 ∧ u.2.2.1 = x ∧ (u.1 = qx ∧ u.2.1 = qo) ∧ (∀ i : Nat, i < x.toNat → u.2.2.2.2.2.2 i % 256 = gS (dcS gP gS o (fun k => fi k % 256) (8 * ps.toNat) (8 * (Li - 1 - ps) + (zlog (fi (Li - 1).toNat % 256) : Int) - (o : Int)) i).2) ∧ ∀ k, -128 ≤ u.2.2.2.2.2.2 k ∧ u.2.2.2.2.2.2 k < 128)) (fun u => [(g, .inr (3, [.ref qc, .ref qp, .ref qi, .ref qs, .ref qr, .ref u.1, .ref u.2.1, .int (iZ ps)])), (qi, .inr (0, [.ref bi, .int (iZ Li), .int (iZ hdi), .int (iZ hni), .int (iZ ovi), .int (iZ tsi), .int (iZ tbi)])), (bi, .inl (cB, 6000, .inl (zA fi))), (qs, .inr (1, [.ref pP, .ref pS, .ref pB, .ref pA, .ref pC, .ref pF, .ref pN, .int (iZ (o : Int))])), (pS, .inl (cI, 4096, .inl (zA gS))), (pB, .inl (cI, 4096, .inl (zA gB))), (pA, .inl (cI, 4096, .inl (zA gA))), (qo, .inr (0, [.ref bo, .int (iZ Lo), .int (iZ hdo), .int (iZ hno), .int (iZ ovo), .int (iZ tso), .int (iZ tbo)])), (bo, .inl (cB, 6000, .inl (zA fo))), (qx, .inr (0, [.ref bx, .int (iZ u.2.2.1), .int (iZ u.2.2.2.1), .int (iZ u.2.2.2.2.1), .int (iZ u.2.2.2.2.2.1), .int (iZ tsx), .int (iZ tbx)])), (bx, .inl (cB, 6000, .inl (zA u.2.2.2.2.2.2)))]) (va_A [(g, .inr (3, [.ref qc, .ref qp, .ref qi, .ref qs, .ref qr, .ref qo, .ref qx, .int (iZ ps)])), (qi, .inr (0, [.ref bi, .int (iZ Li), .int (iZ hdi), .int (iZ hni), .int (iZ ovi), .int (iZ tsi), .int (iZ tbi)])), (bi, .inl (cB, 6000, .inl (zA fi))), (qs, .inr (1, [.ref pP, .ref pS, .ref pB, .ref pA, .ref pC, .ref pF, .ref pN, .int (iZ (o : Int))])), (pS, .inl (cI, 4096, .inl (zA gS))), (pB, .inl (cI, 4096, .inl (zA gB))), (pA, .inl (cI, 4096, .inl (zA gA))), (qo, .inr (0, [.ref bo, .int (iZ Lo), .int (iZ hdo), .int (iZ hno), .int (iZ ovo), .int (iZ tso), .int (iZ tbo)])), (bo, .inl (cB, 6000, .inl (zA fo))), (qx, .inr (0, [.ref bx, .int (iZ Lx), .int (iZ hdx), .int (iZ hnx), .int (iZ ovx), .int (iZ tsx), .int (iZ tbx)])), (bx, .inl (cB, 6000, .inl (zA fx)))] sz)) 0 0 (va_A [(g, .inr (3, [.ref qc, .ref qp, .ref qi, .ref qs, .ref qr, .ref qo, .ref qx, .int (iZ ps)])), (qi, .inr (0, [.ref bi, .int (iZ Li), .int (iZ hdi), .int (iZ hni), .int (iZ ovi), .int (iZ tsi), .int (iZ tbi)])), (bi, .inl (cB, 6000, .inl (zA fi))), (qs, .inr (1, [.ref pP, .ref pS, .ref pB, .ref pA, .ref pC, .ref pF, .ref pN, .int (iZ (o : Int))])), (pS, .inl (cI, 4096, .inl (zA gS))), (pB, .inl (cI, 4096, .inl (zA gB))), (pA, .inl (cI, 4096, .inl (zA gA))), (qo, .inr (0, [.ref bo, .int (iZ Lo), .int (iZ hdo), .int (iZ hno), .int (iZ ovo), .int (iZ tso), .int (iZ tbo)])), (bo, .inl (cB, 6000, .inl (zA fo))), (qx, .inr (0, [.ref bx, .int (iZ Lx), .int (iZ hdx), .int (iZ hnx), .int (iZ ovx), .int (iZ tsx), .int (iZ tbx)])), (bx, .inl (cB, 6000, .inl (zA fx)))] sz) := by
  refine z_ofi (by decide) (Nat.le_of_ble_eq_true rfl) (Or.inl rfl) ?_
  intro p e s m args below meth c A Q E jA jK jret H locs jP jD jS ls jl
  obtain ⟨jx, jb, jrt, jml, jown, jts, jlk⟩ := E
  have jown : s.vm.findClass R_SC = some m.cls := jown
  have jl : lv_has ls 3 [(0, .ref g), (1, .int (iZ x))] := jl
  refine lv_aload_n jx jb d_SC_decode_0 rfl (lv_at jl 0 rfl) ?_
  refine va_get (D := D) (ci := 3) (v := .ref qs) (C := R_SC) (T := F_SC) (N := 8) jx jb jts i_SC jown jK.1 jP 0 rfl rfl 3 (by decide) (jts _ fl_SC_26) (fun _ h9 => h9) rfl d_SC_decode_1 ?_
  refine z_backr (va_runV (As := []) (rest := []) ⟨jx, jb, jml, jown, jts⟩ (c_Share_exists l D cI cB cZ qs pP pS pB pA pC pF pN o (by omega)) (zc_V 0 jts cd_Share_exists lk_SC_91 im_Share_exists se_Share_exists in_Share hd_Share_exists ⟨Nat.le_of_ble_eq_true rfl, Nat.le_of_ble_eq_true rfl⟩ rfl rfl) (z_preVR jK jP [3] rfl rfl rfl) rfl rfl jl.1 rfl (lv_room (Nat.le_of_ble_eq_true rfl)) d_SC_decode_4 ⟨Nat.le_of_ble_eq_true rfl, Nat.le_of_ble_eq_true rfl⟩) (fun z4 hz4 => ?_)
  rcases hz4 with ⟨rfl, hq4⟩ | ⟨rfl, hq4⟩
  ·
    refine z_if_eq (tgt := 22) jx jb d_SC_decode_7 (by decide) ⟨by decide, by decide⟩ (fun hc7 => ?_) (fun hc7 => ?_)
    ·
      exact absurd hc7 (by decide)
    ·
      refine lv_iload_n jx jb d_SC_decode_10 rfl (lv_at jl 1 rfl) ?_
      refine lv_iconst (v := iZ 1) jx jb d_SC_decode_11 rfl ?_
      refine z_icmp_lt (tgt := 22) jx jb d_SC_decode_12 (by decide) ⟨⟨by omega, by omega⟩, ⟨by decide, by decide⟩⟩ (fun hc12 => ?_) (fun hc12 => ?_)
      ·
        refine lv_iconst (v := iZ (-1)) jx jb d_SC_decode_22 rfl ?_
        exact jret _ _ _ (qo, qx, Lx, hdx, hnx, ovx, fx) _ _ (Or.inl rfl) (Or.inl ⟨rfl, by omega, rfl, rfl, hfx⟩) (jP.sub [0, 1, 2, 3, 4, 5, 6, 7, 8, 9, 10] rfl) (jD.sub [0, 1, 2, 3, 4, 5, 6, 7, 8, 9, 10] (by decide) rfl) jS d_SC_decode_23
      ·
        refine lv_iload_n jx jb d_SC_decode_15 rfl (lv_at jl 1 rfl) ?_
        refine lv_sipush (v := iZ 6000) jx jb d_SC_decode_16 (by decide) ?_
        refine z_icmp_le (tgt := 24) jx jb d_SC_decode_19 (by decide) ⟨⟨by omega, by omega⟩, ⟨by decide, by decide⟩⟩ (fun hc19 => ?_) (fun hc19 => ?_)
        ·
          have ho0 : 0 < o := by omega
          have ho5 : 5 ≤ o ∧ o ≤ 12 := by omega
          refine lv_aload_n jx jb d_SC_decode_24 rfl (lv_at jl 0 rfl) ?_
          refine va_get (D := D) (ci := 3) (v := .int (iZ ps)) (C := R_SC) (T := F_SC) (N := 8) jx jb jts i_SC jown jK.1 jP 0 rfl rfl 7 (by decide) (jts _ fl_SC_55) (fun _ h9 => h9) rfl d_SC_decode_25 ?_
          refine lv_aload_n jx jb d_SC_decode_28 rfl (lv_at jl 0 rfl) ?_
          refine va_get (D := D) (ci := 3) (v := .ref qi) (C := R_SC) (T := F_SC) (N := 8) jx jb jts i_SC jown jK.1 jP 0 rfl rfl 2 (by decide) (jts _ fl_SC_19) (fun _ h9 => h9) rfl d_SC_decode_29 ?_
          refine z_backe (va_runV (As := []) (rest := [.int (iZ ps)]) ⟨jx, jb, jml, jown, jts⟩ (c_Row_length l D cI cB cZ qi bi Li hdi hni ovi tsi tbi) (zc_V 0 jts cd_Row_length lk_SC_43 im_Row_length se_Row_length in_Row hd_Row_length ⟨Nat.le_of_ble_eq_true rfl, Nat.le_of_ble_eq_true rfl⟩ rfl rfl) (z_preVR jK jP [1] rfl rfl rfl) rfl rfl jl.1 rfl (lv_room (Nat.le_of_ble_eq_true rfl)) d_SC_decode_32 ⟨Nat.le_of_ble_eq_true rfl, Nat.le_of_ble_eq_true rfl⟩) ?_
          refine z_icmp_ge (tgt := 57) jx jb d_SC_decode_35 (by decide) ⟨⟨by omega, by omega⟩, ⟨by omega, by omega⟩⟩ (fun hc35 => ?_) (fun hc35 => ?_)
          ·
            refine lv_bipush (v := iZ (-2)) jx jb d_SC_decode_57 (by decide) ?_
            exact jret _ _ _ (qo, qx, Lx, hdx, hnx, ovx, fx) _ _ (Or.inl rfl) (Or.inr (Or.inl ⟨rfl, by omega, by omega, rfl, rfl, hfx⟩)) (jP.sub [0, 1, 2, 3, 4, 5, 6, 7, 8, 9, 10] rfl) (jD.sub [0, 1, 2, 3, 4, 5, 6, 7, 8, 9, 10] (by decide) rfl) jS d_SC_decode_59
          ·
            refine lv_aload_n jx jb d_SC_decode_38 rfl (lv_at jl 0 rfl) ?_
            refine va_get (D := D) (ci := 3) (v := .ref qi) (C := R_SC) (T := F_SC) (N := 8) jx jb jts i_SC jown jK.1 jP 0 rfl rfl 2 (by decide) (jts _ fl_SC_19) (fun _ h9 => h9) rfl d_SC_decode_39 ?_
            refine lv_aload_n jx jb d_SC_decode_42 rfl (lv_at jl 0 rfl) ?_
            refine va_get (D := D) (ci := 3) (v := .ref qi) (C := R_SC) (T := F_SC) (N := 8) jx jb jts i_SC jown jK.1 jP 0 rfl rfl 2 (by decide) (jts _ fl_SC_19) (fun _ h9 => h9) rfl d_SC_decode_43 ?_
            refine z_backe (va_runV (As := []) (rest := [.ref qi]) ⟨jx, jb, jml, jown, jts⟩ (c_Row_length l D cI cB cZ qi bi Li hdi hni ovi tsi tbi) (zc_V 0 jts cd_Row_length lk_SC_43 im_Row_length se_Row_length in_Row hd_Row_length ⟨Nat.le_of_ble_eq_true rfl, Nat.le_of_ble_eq_true rfl⟩ rfl rfl) (z_preVR jK jP [1] rfl rfl rfl) rfl rfl jl.1 rfl (lv_room (Nat.le_of_ble_eq_true rfl)) d_SC_decode_46 ⟨Nat.le_of_ble_eq_true rfl, Nat.le_of_ble_eq_true rfl⟩) ?_
            refine lv_iconst (v := iZ 1) jx jb d_SC_decode_49 rfl ?_
            refine z_isub jx jb d_SC_decode_50 ?_
            refine z_backe (va_runV (As := [.int (iZ (Li - 1))]) (rest := []) ⟨jx, jb, jml, jown, jts⟩ (c_Row_byteOrZero l D cI cB cZ qi bi Li hdi hni ovi tsi tbi fi (Li - 1) (by omega) (by omega)) (zc_V 1 jts cd_Row_byteOrZero lk_SC_73 im_Row_byteOrZero se_Row_byteOrZero in_Row hd_Row_byteOrZero ⟨Nat.le_of_ble_eq_true rfl, Nat.le_of_ble_eq_true rfl⟩ rfl rfl) (z_preVR jK jP [1, 2] rfl rfl rfl) rfl rfl jl.1 rfl (lv_room (Nat.le_of_ble_eq_true rfl)) d_SC_decode_51 ⟨Nat.le_of_ble_eq_true rfl, Nat.le_of_ble_eq_true rfl⟩) ?_
            refine z_top (fi (Li - 1).toNat % 256) (rb8_in (by omega) (by omega)) ?_
            refine z_if_ne (tgt := 60) jx jb d_SC_decode_54 (by decide) ⟨by omega, by omega⟩ (fun hc54 => ?_) (fun hc54 => ?_)
            ·
              have hok : 0 < o ∧ 1 ≤ x ∧ x ≤ 6000 ∧ ps < Li ∧ (fi (Li - 1).toNat % 256) ≠ 0 := ⟨by omega, by omega, by omega, by omega, hc54⟩
              refine lv_aload_n jx jb d_SC_decode_60 rfl (lv_at jl 0 rfl) ?_
              refine va_get (D := D) (ci := 3) (v := .ref qi) (C := R_SC) (T := F_SC) (N := 8) jx jb jts i_SC jown jK.1 jP 0 rfl rfl 2 (by decide) (jts _ fl_SC_19) (fun _ h9 => h9) rfl d_SC_decode_61 ?_
              refine lv_aload_n jx jb d_SC_decode_64 rfl (lv_at jl 0 rfl) ?_
              refine va_get (D := D) (ci := 3) (v := .int (iZ ps)) (C := R_SC) (T := F_SC) (N := 8) jx jb jts i_SC jown jK.1 jP 0 rfl rfl 7 (by decide) (jts _ fl_SC_55) (fun _ h9 => h9) rfl d_SC_decode_65 ?_
              refine lv_iload_n jx jb d_SC_decode_68 rfl (lv_at jl 1 rfl) ?_
              refine lv_aload_n jx jb d_SC_decode_69 rfl (lv_at jl 0 rfl) ?_
              refine va_get (D := D) (ci := 3) (v := .ref qs) (C := R_SC) (T := F_SC) (N := 8) jx jb jts i_SC jown jK.1 jP 0 rfl rfl 3 (by decide) (jts _ fl_SC_26) (fun _ h9 => h9) rfl d_SC_decode_70 ?_
              refine lv_aload_n jx jb d_SC_decode_73 rfl (lv_at jl 0 rfl) ?_
              refine va_get (D := D) (ci := 3) (v := .ref qx) (C := R_SC) (T := F_SC) (N := 8) jx jb jts i_SC jown jK.1 jP 0 rfl rfl 6 (by decide) (jts _ fl_SC_40) (fun _ h9 => h9) rfl d_SC_decode_74 ?_
              refine z_backi (wr := [(g, .inr (3, [.ref qc, .ref qp, .ref qi, .ref qs, .ref qr, .ref qo, .ref qx, .int (iZ ps)])), (qo, .inr (0, [.ref bo, .int (iZ Lo), .int (iZ hdo), .int (iZ hno), .int (iZ ovo), .int (iZ tso), .int (iZ tbo)])), (bo, .inl (cB, 6000, .inl (zA fo)))]) jP jD jS jA [1, 2, 3, 4, 5, 6, 9, 10] [0, 7, 8] rfl rfl (by decide) (by decide) (va_runS (As := [.ref qi, .int (iZ ps), .int (iZ x), .ref qs, .ref qx]) (rest := []) ⟨jx, jb, jml, jown, jts⟩ (c_RC_takeRow l D cI cB cZ H.size qi bi Li hdi hni ovi tsi tbi fi qs pP pS pB pA pC pF pN o gP gS gB gA gC gF qx bx Lx hdx hnx ovx tsx tbx fx ps x (by omega) (by first | assumption | omega) (ho5) (hsh ho0) (hsum ho0) (hc54) (hfx) (by omega)) (zc_S 5 jts cd_RowCoder_takeRow lk_SC_147 st_RowCoder_takeRow in_RowCoder hd_RowCoder_takeRow ⟨Nat.le_of_ble_eq_true rfl, Nat.le_of_ble_eq_true rfl⟩ rfl rfl) (z_preS jK jP jD [1, 2, 3, 4, 5, 6, 9, 10] (by decide) rfl rfl) rfl rfl jl.1 rfl (lv_room (Nat.le_of_ble_eq_true rfl)) d_SC_decode_77 ⟨Nat.le_of_ble_eq_true rfl, Nat.le_of_ble_eq_true rfl⟩) (fun z77 u77 H locs hz77 jP jD jS => ?_)
              obtain ⟨L1_77, hd1_77, hn1_77, ov1_77, f1_77⟩ := u77
              have jP : va_P D classes [(g, .inr (3, [.ref qc, .ref qp, .ref qi, .ref qs, .ref qr, .ref qo, .ref qx, .int (iZ ps)])), (qi, .inr (0, [.ref bi, .int (iZ Li), .int (iZ hdi), .int (iZ hni), .int (iZ ovi), .int (iZ tsi), .int (iZ tbi)])), (bi, .inl (cB, 6000, .inl (zA fi))), (qs, .inr (1, [.ref pP, .ref pS, .ref pB, .ref pA, .ref pC, .ref pF, .ref pN, .int (iZ (o : Int))])), (pS, .inl (cI, 4096, .inl (zA gS))), (pB, .inl (cI, 4096, .inl (zA gB))), (pA, .inl (cI, 4096, .inl (zA gA))), (qo, .inr (0, [.ref bo, .int (iZ Lo), .int (iZ hdo), .int (iZ hno), .int (iZ ovo), .int (iZ tso), .int (iZ tbo)])), (bo, .inl (cB, 6000, .inl (zA fo))), (qx, .inr (0, [.ref bx, .int (iZ L1_77), .int (iZ hd1_77), .int (iZ hn1_77), .int (iZ ov1_77), .int (iZ tsx), .int (iZ tbx)])), (bx, .inl (cB, 6000, .inl (zA f1_77)))] H := jP.sub [0, 3, 4, 5, 6, 7, 8, 1, 2, 9, 10] rfl
              have jD : va_D A [(g, .inr (3, [.ref qc, .ref qp, .ref qi, .ref qs, .ref qr, .ref qo, .ref qx, .int (iZ ps)])), (qi, .inr (0, [.ref bi, .int (iZ Li), .int (iZ hdi), .int (iZ hni), .int (iZ ovi), .int (iZ tsi), .int (iZ tbi)])), (bi, .inl (cB, 6000, .inl (zA fi))), (qs, .inr (1, [.ref pP, .ref pS, .ref pB, .ref pA, .ref pC, .ref pF, .ref pN, .int (iZ (o : Int))])), (pS, .inl (cI, 4096, .inl (zA gS))), (pB, .inl (cI, 4096, .inl (zA gB))), (pA, .inl (cI, 4096, .inl (zA gA))), (qo, .inr (0, [.ref bo, .int (iZ Lo), .int (iZ hdo), .int (iZ hno), .int (iZ ovo), .int (iZ tso), .int (iZ tbo)])), (bo, .inl (cB, 6000, .inl (zA fo))), (qx, .inr (0, [.ref bx, .int (iZ L1_77), .int (iZ hd1_77), .int (iZ hn1_77), .int (iZ ov1_77), .int (iZ tsx), .int (iZ tbx)])), (bx, .inl (cB, 6000, .inl (zA f1_77)))] := jD.sub [0, 3, 4, 5, 6, 7, 8, 1, 2, 9, 10] (by decide) rfl
              rcases hz77 with ⟨hz77, hq77⟩ | ⟨hz77, hq77⟩ | ⟨hz77, hq77⟩
              ·
                refine lv_istore_n (lv' := [(2, .int (iZ z77)), (0, .ref g), (1, .int (iZ x))]) jx jb d_SC_decode_80 rfl jl (by decide) rfl (fun ls jl => ?_)
                refine lv_iload_n jx jb d_SC_decode_81 rfl (lv_at jl 0 rfl) ?_
                refine z_if_le (tgt := 89) jx jb d_SC_decode_82 (by decide) ⟨by omega, by omega⟩ (fun hc82 => ?_) (fun hc82 => ?_)
                ·
                  refine lv_iload_n jx jb d_SC_decode_89 rfl (lv_at jl 0 rfl) ?_
                  exact jret _ _ _ (qo, qx, L1_77, hd1_77, hn1_77, ov1_77, f1_77) _ _ (Or.inl rfl) (Or.inr (Or.inr (Or.inl ⟨hz77, hok, hq77.1, rfl, rfl, hq77.2⟩))) (jP.sub [0, 1, 2, 3, 4, 5, 6, 7, 8, 9, 10] rfl) (jD.sub [0, 1, 2, 3, 4, 5, 6, 7, 8, 9, 10] (by decide) rfl) jS d_SC_decode_90
                ·
                  exfalso; omega
              ·
                refine lv_istore_n (lv' := [(2, .int (iZ z77)), (0, .ref g), (1, .int (iZ x))]) jx jb d_SC_decode_80 rfl jl (by decide) rfl (fun ls jl => ?_)
                refine lv_iload_n jx jb d_SC_decode_81 rfl (lv_at jl 0 rfl) ?_
                refine z_if_le (tgt := 89) jx jb d_SC_decode_82 (by decide) ⟨by omega, by omega⟩ (fun hc82 => ?_) (fun hc82 => ?_)
                ·
                  refine lv_iload_n jx jb d_SC_decode_89 rfl (lv_at jl 0 rfl) ?_
                  exact jret _ _ _ (qo, qx, L1_77, hd1_77, hn1_77, ov1_77, f1_77) _ _ (Or.inl rfl) (Or.inr (Or.inr (Or.inr (Or.inl ⟨hz77, hok, hq77.1, rfl, rfl, hq77.2⟩)))) (jP.sub [0, 1, 2, 3, 4, 5, 6, 7, 8, 9, 10] rfl) (jD.sub [0, 1, 2, 3, 4, 5, 6, 7, 8, 9, 10] (by decide) rfl) jS d_SC_decode_90
                ·
                  exfalso; omega
              ·
                refine lv_istore_n (lv' := [(2, .int (iZ z77)), (0, .ref g), (1, .int (iZ x))]) jx jb d_SC_decode_80 rfl jl (by decide) rfl (fun ls jl => ?_)
                refine lv_iload_n jx jb d_SC_decode_81 rfl (lv_at jl 0 rfl) ?_
                refine z_if_le (tgt := 89) jx jb d_SC_decode_82 (by decide) ⟨by omega, by omega⟩ (fun hc82 => ?_) (fun hc82 => ?_)
                ·
                  exfalso; omega
                ·
                  refine lv_aload_n jx jb d_SC_decode_85 rfl (lv_at jl 1 rfl) ?_
                  refine z_backv (wr := [(qi, .inr (0, [.ref bi, .int (iZ Li), .int (iZ hdi), .int (iZ hni), .int (iZ ovi), .int (iZ tsi), .int (iZ tbi)])), (bi, .inl (cB, 6000, .inl (zA fi))), (qs, .inr (1, [.ref pP, .ref pS, .ref pB, .ref pA, .ref pC, .ref pF, .ref pN, .int (iZ (o : Int))])), (pS, .inl (cI, 4096, .inl (zA gS))), (pB, .inl (cI, 4096, .inl (zA gB))), (pA, .inl (cI, 4096, .inl (zA gA))), (qo, .inr (0, [.ref bo, .int (iZ Lo), .int (iZ hdo), .int (iZ hno), .int (iZ ovo), .int (iZ tso), .int (iZ tbo)])), (bo, .inl (cB, 6000, .inl (zA fo))), (qx, .inr (0, [.ref bx, .int (iZ L1_77), .int (iZ hd1_77), .int (iZ hn1_77), .int (iZ ov1_77), .int (iZ tsx), .int (iZ tbx)])), (bx, .inl (cB, 6000, .inl (zA f1_77)))]) jP jD jS jA [0] [1, 2, 3, 4, 5, 6, 7, 8, 9, 10] rfl rfl (by decide) (by decide) (va_runV (As := []) (rest := []) ⟨jx, jb, jml, jown, jts⟩ (c_SC_makeSpareOut l D cI cB cZ H.size g qc qp qi qs qr qo qx ps) (zc_V 0 jts cd_SC_makeSpareOut lk_SC_144 im_SC_makeSpareOut se_SC_makeSpareOut in_SC hd_SC_makeSpareOut ⟨Nat.le_of_ble_eq_true rfl, Nat.le_of_ble_eq_true rfl⟩ rfl rfl) (z_preV jK jP jD [0] (by decide) rfl rfl rfl rfl) rfl rfl jl.1 rfl (lv_room (Nat.le_of_ble_eq_true rfl)) d_SC_decode_86 ⟨Nat.le_of_ble_eq_true rfl, Nat.le_of_ble_eq_true rfl⟩) (fun u86 H locs hu86 jP jD jS => ?_)
                  have jP : va_P D classes [(g, .inr (3, [.ref qc, .ref qp, .ref qi, .ref qs, .ref qr, .ref qx, .ref qo, .int (iZ ps)])), (qi, .inr (0, [.ref bi, .int (iZ Li), .int (iZ hdi), .int (iZ hni), .int (iZ ovi), .int (iZ tsi), .int (iZ tbi)])), (bi, .inl (cB, 6000, .inl (zA fi))), (qs, .inr (1, [.ref pP, .ref pS, .ref pB, .ref pA, .ref pC, .ref pF, .ref pN, .int (iZ (o : Int))])), (pS, .inl (cI, 4096, .inl (zA gS))), (pB, .inl (cI, 4096, .inl (zA gB))), (pA, .inl (cI, 4096, .inl (zA gA))), (qo, .inr (0, [.ref bo, .int (iZ Lo), .int (iZ hdo), .int (iZ hno), .int (iZ ovo), .int (iZ tso), .int (iZ tbo)])), (bo, .inl (cB, 6000, .inl (zA fo))), (qx, .inr (0, [.ref bx, .int (iZ L1_77), .int (iZ hd1_77), .int (iZ hn1_77), .int (iZ ov1_77), .int (iZ tsx), .int (iZ tbx)])), (bx, .inl (cB, 6000, .inl (zA f1_77)))] H := jP.sub [10, 0, 1, 2, 3, 4, 5, 6, 7, 8, 9] rfl
                  have jD : va_D A [(g, .inr (3, [.ref qc, .ref qp, .ref qi, .ref qs, .ref qr, .ref qx, .ref qo, .int (iZ ps)])), (qi, .inr (0, [.ref bi, .int (iZ Li), .int (iZ hdi), .int (iZ hni), .int (iZ ovi), .int (iZ tsi), .int (iZ tbi)])), (bi, .inl (cB, 6000, .inl (zA fi))), (qs, .inr (1, [.ref pP, .ref pS, .ref pB, .ref pA, .ref pC, .ref pF, .ref pN, .int (iZ (o : Int))])), (pS, .inl (cI, 4096, .inl (zA gS))), (pB, .inl (cI, 4096, .inl (zA gB))), (pA, .inl (cI, 4096, .inl (zA gA))), (qo, .inr (0, [.ref bo, .int (iZ Lo), .int (iZ hdo), .int (iZ hno), .int (iZ ovo), .int (iZ tso), .int (iZ tbo)])), (bo, .inl (cB, 6000, .inl (zA fo))), (qx, .inr (0, [.ref bx, .int (iZ L1_77), .int (iZ hd1_77), .int (iZ hn1_77), .int (iZ ov1_77), .int (iZ tsx), .int (iZ tbx)])), (bx, .inl (cB, 6000, .inl (zA f1_77)))] := jD.sub [10, 0, 1, 2, 3, 4, 5, 6, 7, 8, 9] (by decide) rfl
                  refine lv_iload_n jx jb d_SC_decode_89 rfl (lv_at jl 0 rfl) ?_
                  exact jret _ _ _ (qx, qo, L1_77, hd1_77, hn1_77, ov1_77, f1_77) _ _ (Or.inl rfl) (Or.inr (Or.inr (Or.inr (Or.inr ⟨hz77, hok, hq77.1, hq77.2.1, ⟨rfl, rfl⟩, hq77.2.2.1, hq77.2.2.2⟩)))) (jP.sub [0, 1, 2, 3, 4, 5, 6, 7, 8, 9, 10] rfl) (jD.sub [0, 1, 2, 3, 4, 5, 6, 7, 8, 9, 10] (by decide) rfl) jS d_SC_decode_90
            ·
              refine lv_bipush (v := iZ (-2)) jx jb d_SC_decode_57 (by decide) ?_
              exact jret _ _ _ (qo, qx, Lx, hdx, hnx, ovx, fx) _ _ (Or.inl rfl) (Or.inr (Or.inl ⟨rfl, by omega, by omega, rfl, rfl, hfx⟩)) (jP.sub [0, 1, 2, 3, 4, 5, 6, 7, 8, 9, 10] rfl) (jD.sub [0, 1, 2, 3, 4, 5, 6, 7, 8, 9, 10] (by decide) rfl) jS d_SC_decode_59
        ·
          refine lv_iconst (v := iZ (-1)) jx jb d_SC_decode_22 rfl ?_
          exact jret _ _ _ (qo, qx, Lx, hdx, hnx, ovx, fx) _ _ (Or.inl rfl) (Or.inl ⟨rfl, by omega, rfl, rfl, hfx⟩) (jP.sub [0, 1, 2, 3, 4, 5, 6, 7, 8, 9, 10] rfl) (jD.sub [0, 1, 2, 3, 4, 5, 6, 7, 8, 9, 10] (by decide) rfl) jS d_SC_decode_23
  ·
    refine z_if_eq (tgt := 22) jx jb d_SC_decode_7 (by decide) ⟨by decide, by decide⟩ (fun hc7 => ?_) (fun hc7 => ?_)
    ·
      refine lv_iconst (v := iZ (-1)) jx jb d_SC_decode_22 rfl ?_
      exact jret _ _ _ (qo, qx, Lx, hdx, hnx, ovx, fx) _ _ (Or.inl rfl) (Or.inl ⟨rfl, by omega, rfl, rfl, hfx⟩) (jP.sub [0, 1, 2, 3, 4, 5, 6, 7, 8, 9, 10] rfl) (jD.sub [0, 1, 2, 3, 4, 5, 6, 7, 8, 9, 10] (by decide) rfl) jS d_SC_decode_23
    ·
      exact absurd hc7 (by decide)
