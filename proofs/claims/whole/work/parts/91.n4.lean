theorem cd_Mod_newRound : Cond.code y_Mod_newRound b_Mod_newRound 2 none ∈ zT := zT_of (List.mem_of_getElem? (i := 576) (by decide +kernel)) rfl
theorem hd_Mod_newRound : y_Mod_newRound.cls ≠ "java/lang/invoke/MethodHandle" ∧ y_Mod_newRound.cls ≠ "java/lang/invoke/VarHandle" ∧ (parseMethodDescriptor y_Mod_newRound.desc).map (fun d => d.parameters.length) = some 0 := by decide +kernel
theorem lk_Mod_53 : Cond.methodLink R_Mod 53 y_Mod_newRound ∈ zT := zT_of (List.mem_of_getElem? (i := 573) (by decide +kernel)) rfl
theorem im_Mod_newRound : Cond.instanceMethod y_Mod_newRound ∈ zT := zT_of (List.mem_of_getElem? (i := 575) (by decide +kernel)) rfl
theorem se_Mod_newRound : Cond.selects R_Mod y_Mod_newRound y_Mod_newRound ∈ zT := zT_of (List.mem_of_getElem? (i := 13) (by decide +kernel)) rfl
theorem cd_Mod_nextToGet : Cond.code y_Mod_nextToGet b_Mod_nextToGet 3 (some .int) ∈ zT := zT_of (List.mem_of_getElem? (i := 580) (by decide +kernel)) rfl
theorem hd_Mod_nextToGet : y_Mod_nextToGet.cls ≠ "java/lang/invoke/MethodHandle" ∧ y_Mod_nextToGet.cls ≠ "java/lang/invoke/VarHandle" ∧ (parseMethodDescriptor y_Mod_nextToGet.desc).map (fun d => d.parameters.length) = some 0 := by decide +kernel
theorem lk_Mod_56 : Cond.methodLink R_Mod 56 y_Mod_nextToGet ∈ zT := zT_of (List.mem_of_getElem? (i := 577) (by decide +kernel)) rfl
theorem im_Mod_nextToGet : Cond.instanceMethod y_Mod_nextToGet ∈ zT := zT_of (List.mem_of_getElem? (i := 579) (by decide +kernel)) rfl
theorem se_Mod_nextToGet : Cond.selects R_Mod y_Mod_nextToGet y_Mod_nextToGet ∈ zT := zT_of (List.mem_of_getElem? (i := 14) (by decide +kernel)) rfl
theorem cd_Mod_giveOut : Cond.code y_Mod_giveOut b_Mod_giveOut 4 none ∈ zT := zT_of (List.mem_of_getElem? (i := 572) (by decide +kernel)) rfl
theorem hd_Mod_giveOut : y_Mod_giveOut.cls ≠ "java/lang/invoke/MethodHandle" ∧ y_Mod_giveOut.cls ≠ "java/lang/invoke/VarHandle" ∧ (parseMethodDescriptor y_Mod_giveOut.desc).map (fun d => d.parameters.length) = some 1 := by decide +kernel
theorem lk_Mod_67 : Cond.methodLink R_Mod 67 y_Mod_giveOut ∈ zT := zT_of (List.mem_of_getElem? (i := 569) (by decide +kernel)) rfl
theorem im_Mod_giveOut : Cond.instanceMethod y_Mod_giveOut ∈ zT := zT_of (List.mem_of_getElem? (i := 571) (by decide +kernel)) rfl
theorem se_Mod_giveOut : Cond.selects R_Mod y_Mod_giveOut y_Mod_giveOut ∈ zT := zT_of (List.mem_of_getElem? (i := 12) (by decide +kernel)) rfl
theorem cd_Mod_takeBack : Cond.code y_Mod_takeBack b_Mod_takeBack 5 none ∈ zT := zT_of (List.mem_of_getElem? (i := 584) (by decide +kernel)) rfl
theorem hd_Mod_takeBack : y_Mod_takeBack.cls ≠ "java/lang/invoke/MethodHandle" ∧ y_Mod_takeBack.cls ≠ "java/lang/invoke/VarHandle" ∧ (parseMethodDescriptor y_Mod_takeBack.desc).map (fun d => d.parameters.length) = some 1 := by decide +kernel
theorem lk_Mod_71 : Cond.methodLink R_Mod 71 y_Mod_takeBack ∈ zT := zT_of (List.mem_of_getElem? (i := 581) (by decide +kernel)) rfl
theorem im_Mod_takeBack : Cond.instanceMethod y_Mod_takeBack ∈ zT := zT_of (List.mem_of_getElem? (i := 583) (by decide +kernel)) rfl
theorem se_Mod_takeBack : Cond.selects R_Mod y_Mod_takeBack y_Mod_takeBack ∈ zT := zT_of (List.mem_of_getElem? (i := 15) (by decide +kernel)) rfl
theorem d_Mod_newRound_0 : decode b_Mod_newRound 0 = .ok (.iconst 0, 1) := by decide +kernel
theorem d_Mod_newRound_1 : decode b_Mod_newRound 1 = .ok (.istore_n 1, 1) := by decide +kernel
theorem d_Mod_newRound_2 : decode b_Mod_newRound 2 = .ok (.iload_n 1, 1) := by decide +kernel
theorem d_Mod_newRound_3 : decode b_Mod_newRound 3 = .ok (.sipush 256, 3) := by decide +kernel
theorem d_Mod_newRound_6 : decode b_Mod_newRound 6 = .ok (.if_icmp .ge 16, 3) := by decide +kernel
theorem d_Mod_newRound_9 : decode b_Mod_newRound 9 = .ok (.aload_n 0, 1) := by decide +kernel
theorem d_Mod_newRound_10 : decode b_Mod_newRound 10 = .ok (.getfield 31, 3) := by decide +kernel
theorem d_Mod_newRound_13 : decode b_Mod_newRound 13 = .ok (.iload_n 1, 1) := by decide +kernel
theorem d_Mod_newRound_14 : decode b_Mod_newRound 14 = .ok (.iconst 0, 1) := by decide +kernel
theorem d_Mod_newRound_15 : decode b_Mod_newRound 15 = .ok (.bastore, 1) := by decide +kernel
theorem d_Mod_newRound_16 : decode b_Mod_newRound 16 = .ok (.iinc 1 1, 3) := by decide +kernel
theorem d_Mod_newRound_19 : decode b_Mod_newRound 19 = .ok (.goto (-17), 3) := by decide +kernel
theorem d_Mod_newRound_22 : decode b_Mod_newRound 22 = .ok (.return_, 1) := by decide +kernel
theorem d_Mod_nextToGet_0 : decode b_Mod_nextToGet 0 = .ok (.iconst (-1), 1) := by decide +kernel
theorem d_Mod_nextToGet_1 : decode b_Mod_nextToGet 1 = .ok (.istore_n 1, 1) := by decide +kernel
theorem d_Mod_nextToGet_2 : decode b_Mod_nextToGet 2 = .ok (.iconst 0, 1) := by decide +kernel
theorem d_Mod_nextToGet_3 : decode b_Mod_nextToGet 3 = .ok (.istore_n 2, 1) := by decide +kernel
theorem d_Mod_nextToGet_4 : decode b_Mod_nextToGet 4 = .ok (.iload_n 2, 1) := by decide +kernel
theorem d_Mod_nextToGet_5 : decode b_Mod_nextToGet 5 = .ok (.sipush 256, 3) := by decide +kernel
theorem d_Mod_nextToGet_8 : decode b_Mod_nextToGet 8 = .ok (.if_icmp .ge 50, 3) := by decide +kernel
theorem d_Mod_nextToGet_11 : decode b_Mod_nextToGet 11 = .ok (.aload_n 0, 1) := by decide +kernel
theorem d_Mod_nextToGet_12 : decode b_Mod_nextToGet 12 = .ok (.getfield 31, 3) := by decide +kernel
theorem d_Mod_nextToGet_15 : decode b_Mod_nextToGet 15 = .ok (.iload_n 2, 1) := by decide +kernel
theorem d_Mod_nextToGet_16 : decode b_Mod_nextToGet 16 = .ok (.baload, 1) := by decide +kernel
theorem d_Mod_nextToGet_17 : decode b_Mod_nextToGet 17 = .ok (.ifCond .ne 35, 3) := by decide +kernel
theorem d_Mod_nextToGet_20 : decode b_Mod_nextToGet 20 = .ok (.aload_n 0, 1) := by decide +kernel
theorem d_Mod_nextToGet_21 : decode b_Mod_nextToGet 21 = .ok (.getfield 25, 3) := by decide +kernel
theorem d_Mod_nextToGet_24 : decode b_Mod_nextToGet 24 = .ok (.iload_n 2, 1) := by decide +kernel
theorem d_Mod_nextToGet_25 : decode b_Mod_nextToGet 25 = .ok (.iaload, 1) := by decide +kernel
theorem d_Mod_nextToGet_26 : decode b_Mod_nextToGet 26 = .ok (.iconst 1, 1) := by decide +kernel
theorem d_Mod_nextToGet_27 : decode b_Mod_nextToGet 27 = .ok (.if_icmp .lt 25, 3) := by decide +kernel
theorem d_Mod_nextToGet_30 : decode b_Mod_nextToGet 30 = .ok (.iload_n 1, 1) := by decide +kernel
theorem d_Mod_nextToGet_31 : decode b_Mod_nextToGet 31 = .ok (.iconst (-1), 1) := by decide +kernel
theorem d_Mod_nextToGet_32 : decode b_Mod_nextToGet 32 = .ok (.if_icmp .eq 18, 3) := by decide +kernel
theorem d_Mod_nextToGet_35 : decode b_Mod_nextToGet 35 = .ok (.aload_n 0, 1) := by decide +kernel
theorem d_Mod_nextToGet_36 : decode b_Mod_nextToGet 36 = .ok (.getfield 28, 3) := by decide +kernel
theorem d_Mod_nextToGet_39 : decode b_Mod_nextToGet 39 = .ok (.iload_n 2, 1) := by decide +kernel
theorem d_Mod_nextToGet_40 : decode b_Mod_nextToGet 40 = .ok (.iaload, 1) := by decide +kernel
theorem d_Mod_nextToGet_41 : decode b_Mod_nextToGet 41 = .ok (.aload_n 0, 1) := by decide +kernel
theorem d_Mod_nextToGet_42 : decode b_Mod_nextToGet 42 = .ok (.getfield 28, 3) := by decide +kernel
theorem d_Mod_nextToGet_45 : decode b_Mod_nextToGet 45 = .ok (.iload_n 1, 1) := by decide +kernel
theorem d_Mod_nextToGet_46 : decode b_Mod_nextToGet 46 = .ok (.iaload, 1) := by decide +kernel
theorem d_Mod_nextToGet_47 : decode b_Mod_nextToGet 47 = .ok (.if_icmp .le 5, 3) := by decide +kernel
theorem d_Mod_nextToGet_50 : decode b_Mod_nextToGet 50 = .ok (.iload_n 2, 1) := by decide +kernel
theorem d_Mod_nextToGet_51 : decode b_Mod_nextToGet 51 = .ok (.istore_n 1, 1) := by decide +kernel
theorem d_Mod_nextToGet_52 : decode b_Mod_nextToGet 52 = .ok (.iinc 2 1, 3) := by decide +kernel
theorem d_Mod_nextToGet_55 : decode b_Mod_nextToGet 55 = .ok (.goto (-51), 3) := by decide +kernel
theorem d_Mod_nextToGet_58 : decode b_Mod_nextToGet 58 = .ok (.iload_n 1, 1) := by decide +kernel
theorem d_Mod_nextToGet_59 : decode b_Mod_nextToGet 59 = .ok (.ireturn, 1) := by decide +kernel
theorem d_Mod_giveOut_0 : decode b_Mod_giveOut 0 = .ok (.aload_n 0, 1) := by decide +kernel
theorem d_Mod_giveOut_1 : decode b_Mod_giveOut 1 = .ok (.invokevirtual 53, 3) := by decide +kernel
theorem d_Mod_giveOut_4 : decode b_Mod_giveOut 4 = .ok (.iconst 0, 1) := by decide +kernel
theorem d_Mod_giveOut_5 : decode b_Mod_giveOut 5 = .ok (.istore_n 2, 1) := by decide +kernel
theorem d_Mod_giveOut_6 : decode b_Mod_giveOut 6 = .ok (.iload_n 2, 1) := by decide +kernel
theorem d_Mod_giveOut_7 : decode b_Mod_giveOut 7 = .ok (.iload_n 1, 1) := by decide +kernel
theorem d_Mod_giveOut_8 : decode b_Mod_giveOut 8 = .ok (.if_icmp .ge 45, 3) := by decide +kernel
theorem d_Mod_giveOut_11 : decode b_Mod_giveOut 11 = .ok (.aload_n 0, 1) := by decide +kernel
theorem d_Mod_giveOut_12 : decode b_Mod_giveOut 12 = .ok (.invokevirtual 56, 3) := by decide +kernel
theorem d_Mod_giveOut_15 : decode b_Mod_giveOut 15 = .ok (.istore_n 3, 1) := by decide +kernel
theorem d_Mod_giveOut_16 : decode b_Mod_giveOut 16 = .ok (.iload_n 3, 1) := by decide +kernel
theorem d_Mod_giveOut_17 : decode b_Mod_giveOut 17 = .ok (.iconst (-1), 1) := by decide +kernel
theorem d_Mod_giveOut_18 : decode b_Mod_giveOut 18 = .ok (.if_icmp .ne 12, 3) := by decide +kernel
theorem d_Mod_giveOut_30 : decode b_Mod_giveOut 30 = .ok (.aload_n 0, 1) := by decide +kernel
theorem d_Mod_giveOut_31 : decode b_Mod_giveOut 31 = .ok (.getfield 25, 3) := by decide +kernel
theorem d_Mod_giveOut_34 : decode b_Mod_giveOut 34 = .ok (.iload_n 3, 1) := by decide +kernel
theorem d_Mod_giveOut_35 : decode b_Mod_giveOut 35 = .ok (.dup2, 1) := by decide +kernel
theorem d_Mod_giveOut_36 : decode b_Mod_giveOut 36 = .ok (.iaload, 1) := by decide +kernel
theorem d_Mod_giveOut_37 : decode b_Mod_giveOut 37 = .ok (.iconst 1, 1) := by decide +kernel
theorem d_Mod_giveOut_38 : decode b_Mod_giveOut 38 = .ok (.iadd, 1) := by decide +kernel
theorem d_Mod_giveOut_39 : decode b_Mod_giveOut 39 = .ok (.iastore, 1) := by decide +kernel
theorem d_Mod_giveOut_40 : decode b_Mod_giveOut 40 = .ok (.aload_n 0, 1) := by decide +kernel
theorem d_Mod_giveOut_41 : decode b_Mod_giveOut 41 = .ok (.getfield 31, 3) := by decide +kernel
theorem d_Mod_giveOut_44 : decode b_Mod_giveOut 44 = .ok (.iload_n 3, 1) := by decide +kernel
theorem d_Mod_giveOut_45 : decode b_Mod_giveOut 45 = .ok (.iconst 1, 1) := by decide +kernel
theorem d_Mod_giveOut_46 : decode b_Mod_giveOut 46 = .ok (.bastore, 1) := by decide +kernel
theorem d_Mod_giveOut_47 : decode b_Mod_giveOut 47 = .ok (.iinc 2 1, 3) := by decide +kernel
theorem d_Mod_giveOut_50 : decode b_Mod_giveOut 50 = .ok (.goto (-44), 3) := by decide +kernel
theorem d_Mod_giveOut_53 : decode b_Mod_giveOut 53 = .ok (.return_, 1) := by decide +kernel
theorem d_Mod_share_0 : decode b_Mod_share 0 = .ok (.iconst 0, 1) := by decide +kernel
theorem d_Mod_share_1 : decode b_Mod_share 1 = .ok (.istore_n 2, 1) := by decide +kernel
theorem d_Mod_share_2 : decode b_Mod_share 2 = .ok (.iconst 0, 1) := by decide +kernel
theorem d_Mod_share_3 : decode b_Mod_share 3 = .ok (.istore_n 3, 1) := by decide +kernel
theorem d_Mod_share_4 : decode b_Mod_share 4 = .ok (.iconst 0, 1) := by decide +kernel
theorem d_Mod_share_5 : decode b_Mod_share 5 = .ok (.istore 4, 2) := by decide +kernel
theorem d_Mod_share_7 : decode b_Mod_share 7 = .ok (.iload 4, 2) := by decide +kernel
theorem d_Mod_share_9 : decode b_Mod_share 9 = .ok (.sipush 256, 3) := by decide +kernel
theorem d_Mod_share_12 : decode b_Mod_share 12 = .ok (.if_icmp .ge 32, 3) := by decide +kernel
theorem d_Mod_share_15 : decode b_Mod_share 15 = .ok (.iload_n 2, 1) := by decide +kernel
theorem d_Mod_share_16 : decode b_Mod_share 16 = .ok (.aload_n 0, 1) := by decide +kernel
theorem d_Mod_share_17 : decode b_Mod_share 17 = .ok (.getfield 16, 3) := by decide +kernel
theorem d_Mod_share_20 : decode b_Mod_share 20 = .ok (.iload 4, 2) := by decide +kernel
theorem d_Mod_share_22 : decode b_Mod_share 22 = .ok (.iaload, 1) := by decide +kernel
theorem d_Mod_share_23 : decode b_Mod_share 23 = .ok (.iadd, 1) := by decide +kernel
theorem d_Mod_share_24 : decode b_Mod_share 24 = .ok (.istore_n 2, 1) := by decide +kernel
theorem d_Mod_share_25 : decode b_Mod_share 25 = .ok (.aload_n 0, 1) := by decide +kernel
theorem d_Mod_share_26 : decode b_Mod_share 26 = .ok (.getfield 16, 3) := by decide +kernel
theorem d_Mod_share_29 : decode b_Mod_share 29 = .ok (.iload 4, 2) := by decide +kernel
theorem d_Mod_share_31 : decode b_Mod_share 31 = .ok (.iaload, 1) := by decide +kernel
theorem d_Mod_share_32 : decode b_Mod_share 32 = .ok (.ifCond .le 6, 3) := by decide +kernel
theorem d_Mod_share_35 : decode b_Mod_share 35 = .ok (.iinc 3 1, 3) := by decide +kernel
theorem d_Mod_share_38 : decode b_Mod_share 38 = .ok (.iinc 4 1, 3) := by decide +kernel
theorem d_Mod_share_41 : decode b_Mod_share 41 = .ok (.goto (-34), 3) := by decide +kernel
theorem d_Mod_share_44 : decode b_Mod_share 44 = .ok (.iload_n 1, 1) := by decide +kernel
theorem d_Mod_share_45 : decode b_Mod_share 45 = .ok (.invokestatic 60, 3) := by decide +kernel
theorem d_Mod_share_48 : decode b_Mod_share 48 = .ok (.ifCond .eq 14, 3) := by decide +kernel
theorem d_Mod_share_51 : decode b_Mod_share 51 = .ok (.iload_n 2, 1) := by decide +kernel
theorem d_Mod_share_52 : decode b_Mod_share 52 = .ok (.ifCond .eq 10, 3) := by decide +kernel
theorem d_Mod_share_55 : decode b_Mod_share 55 = .ok (.iload_n 3, 1) := by decide +kernel
theorem d_Mod_share_56 : decode b_Mod_share 56 = .ok (.iconst 1, 1) := by decide +kernel
theorem d_Mod_share_57 : decode b_Mod_share 57 = .ok (.iload_n 1, 1) := by decide +kernel
theorem d_Mod_share_58 : decode b_Mod_share 58 = .ok (.ishl, 1) := by decide +kernel
theorem d_Mod_share_59 : decode b_Mod_share 59 = .ok (.if_icmp .le 5, 3) := by decide +kernel
theorem d_Mod_share_62 : decode b_Mod_share 62 = .ok (.iconst 0, 1) := by decide +kernel
theorem d_Mod_share_63 : decode b_Mod_share 63 = .ok (.ireturn, 1) := by decide +kernel
theorem d_Mod_share_64 : decode b_Mod_share 64 = .ok (.iconst 0, 1) := by decide +kernel
theorem d_Mod_share_65 : decode b_Mod_share 65 = .ok (.istore 4, 2) := by decide +kernel
theorem d_Mod_share_67 : decode b_Mod_share 67 = .ok (.iload 4, 2) := by decide +kernel
theorem d_Mod_share_69 : decode b_Mod_share 69 = .ok (.sipush 256, 3) := by decide +kernel
theorem d_Mod_share_72 : decode b_Mod_share 72 = .ok (.if_icmp .ge 66, 3) := by decide +kernel
theorem d_Mod_share_75 : decode b_Mod_share 75 = .ok (.aload_n 0, 1) := by decide +kernel
theorem d_Mod_share_76 : decode b_Mod_share 76 = .ok (.getfield 16, 3) := by decide +kernel
theorem d_Mod_share_79 : decode b_Mod_share 79 = .ok (.iload 4, 2) := by decide +kernel
theorem d_Mod_share_81 : decode b_Mod_share 81 = .ok (.iaload, 1) := by decide +kernel
theorem d_Mod_share_82 : decode b_Mod_share 82 = .ok (.iload_n 1, 1) := by decide +kernel
theorem d_Mod_share_83 : decode b_Mod_share 83 = .ok (.ishl, 1) := by decide +kernel
theorem d_Mod_share_84 : decode b_Mod_share 84 = .ok (.istore 5, 2) := by decide +kernel
theorem d_Mod_share_86 : decode b_Mod_share 86 = .ok (.aload_n 0, 1) := by decide +kernel
theorem d_Mod_share_87 : decode b_Mod_share 87 = .ok (.getfield 25, 3) := by decide +kernel
theorem d_Mod_share_90 : decode b_Mod_share 90 = .ok (.iload 4, 2) := by decide +kernel
theorem d_Mod_share_92 : decode b_Mod_share 92 = .ok (.aload_n 0, 1) := by decide +kernel
theorem d_Mod_share_93 : decode b_Mod_share 93 = .ok (.getfield 16, 3) := by decide +kernel
theorem d_Mod_share_96 : decode b_Mod_share 96 = .ok (.iload 4, 2) := by decide +kernel
theorem d_Mod_share_98 : decode b_Mod_share 98 = .ok (.iaload, 1) := by decide +kernel
theorem d_Mod_share_99 : decode b_Mod_share 99 = .ok (.ifCond .ne 7, 3) := by decide +kernel
theorem d_Mod_share_102 : decode b_Mod_share 102 = .ok (.iconst 0, 1) := by decide +kernel
theorem d_Mod_share_103 : decode b_Mod_share 103 = .ok (.goto 17, 3) := by decide +kernel
theorem d_Mod_share_106 : decode b_Mod_share 106 = .ok (.iload 5, 2) := by decide +kernel
theorem d_Mod_share_108 : decode b_Mod_share 108 = .ok (.iload_n 2, 1) := by decide +kernel
theorem d_Mod_share_109 : decode b_Mod_share 109 = .ok (.if_icmp .ge 7, 3) := by decide +kernel
theorem d_Mod_share_112 : decode b_Mod_share 112 = .ok (.iconst (-1), 1) := by decide +kernel
theorem d_Mod_share_113 : decode b_Mod_share 113 = .ok (.goto 7, 3) := by decide +kernel
theorem d_Mod_share_116 : decode b_Mod_share 116 = .ok (.iload 5, 2) := by decide +kernel
theorem d_Mod_share_118 : decode b_Mod_share 118 = .ok (.iload_n 2, 1) := by decide +kernel
theorem d_Mod_share_119 : decode b_Mod_share 119 = .ok (.idiv, 1) := by decide +kernel
theorem d_Mod_share_120 : decode b_Mod_share 120 = .ok (.iastore, 1) := by decide +kernel
theorem d_Mod_share_121 : decode b_Mod_share 121 = .ok (.aload_n 0, 1) := by decide +kernel
theorem d_Mod_share_122 : decode b_Mod_share 122 = .ok (.getfield 28, 3) := by decide +kernel
theorem d_Mod_share_125 : decode b_Mod_share 125 = .ok (.iload 4, 2) := by decide +kernel
theorem d_Mod_share_127 : decode b_Mod_share 127 = .ok (.iload 5, 2) := by decide +kernel
theorem d_Mod_share_129 : decode b_Mod_share 129 = .ok (.iload_n 2, 1) := by decide +kernel
theorem d_Mod_share_130 : decode b_Mod_share 130 = .ok (.irem, 1) := by decide +kernel
theorem d_Mod_share_131 : decode b_Mod_share 131 = .ok (.iastore, 1) := by decide +kernel
theorem d_Mod_share_132 : decode b_Mod_share 132 = .ok (.iinc 4 1, 3) := by decide +kernel
theorem d_Mod_share_135 : decode b_Mod_share 135 = .ok (.goto (-68), 3) := by decide +kernel
theorem d_Mod_share_138 : decode b_Mod_share 138 = .ok (.aload_n 0, 1) := by decide +kernel
theorem d_Mod_share_139 : decode b_Mod_share 139 = .ok (.invokevirtual 64, 3) := by decide +kernel
theorem d_Mod_share_142 : decode b_Mod_share 142 = .ok (.istore 4, 2) := by decide +kernel
theorem d_Mod_share_144 : decode b_Mod_share 144 = .ok (.aload_n 0, 1) := by decide +kernel
theorem d_Mod_share_145 : decode b_Mod_share 145 = .ok (.iconst 1, 1) := by decide +kernel
theorem d_Mod_share_146 : decode b_Mod_share 146 = .ok (.iload_n 1, 1) := by decide +kernel
theorem d_Mod_share_147 : decode b_Mod_share 147 = .ok (.ishl, 1) := by decide +kernel
theorem d_Mod_share_148 : decode b_Mod_share 148 = .ok (.iload 4, 2) := by decide +kernel
theorem d_Mod_share_150 : decode b_Mod_share 150 = .ok (.isub, 1) := by decide +kernel
theorem d_Mod_share_151 : decode b_Mod_share 151 = .ok (.invokevirtual 67, 3) := by decide +kernel
theorem d_Mod_share_154 : decode b_Mod_share 154 = .ok (.aload_n 0, 1) := by decide +kernel
theorem d_Mod_share_155 : decode b_Mod_share 155 = .ok (.iload 4, 2) := by decide +kernel
theorem d_Mod_share_157 : decode b_Mod_share 157 = .ok (.iconst 1, 1) := by decide +kernel
theorem d_Mod_share_158 : decode b_Mod_share 158 = .ok (.iload_n 1, 1) := by decide +kernel
theorem d_Mod_share_159 : decode b_Mod_share 159 = .ok (.ishl, 1) := by decide +kernel
theorem d_Mod_share_160 : decode b_Mod_share 160 = .ok (.isub, 1) := by decide +kernel
theorem d_Mod_share_161 : decode b_Mod_share 161 = .ok (.invokevirtual 71, 3) := by decide +kernel
theorem d_Mod_share_164 : decode b_Mod_share 164 = .ok (.aload_n 0, 1) := by decide +kernel
theorem d_Mod_share_165 : decode b_Mod_share 165 = .ok (.iload_n 1, 1) := by decide +kernel
theorem d_Mod_share_166 : decode b_Mod_share 166 = .ok (.invokevirtual 74, 3) := by decide +kernel
theorem d_Mod_share_169 : decode b_Mod_share 169 = .ok (.iconst 1, 1) := by decide +kernel
theorem d_Mod_share_170 : decode b_Mod_share 170 = .ok (.ireturn, 1) := by decide +kernel
abbrev rm_M_newRound : Room := { frames := 0, cells := 0, slots := 0, locals := 0 }
set_option maxHeartbeats 4000000 in
set_option maxRecDepth 100000 in
theorem c_M_newRound (l : Launch) (D : va_G) (cI cB cZ : ClassId) (sz : Nat) (r : Nat) (ri : Nat) (ro : Nat) (rc : Nat) (rp : Nat) (rs : Nat) (rd : Nat) (rk : Nat) (rh : Nat) (iL : Int) (go : Int) (oL : Int) (o : Nat) (bP : Int) (bR : Int) (xh : Nat → Int) : Met l y_Mod_newRound (.code y_Mod_newRound b_Mod_newRound 2 none :: zT) rm_M_newRound (zPc D classes (TY cI cB cZ) [(r, .inr (4, [.ref ri, .int (iZ iL), .int (iZ go), .ref ro, .int (iZ oL), .ref rc, .int (iZ (o : Int)), .ref rp, .ref rs, .ref rd, .ref rk, .ref rh, .int (iZ bP), .int (iZ bR)])), (rh, .inl (cZ, 256, .inl (zA xh)))] sz [.ref r]) (zFv (S := Nat → Int) D classes (fun u => ∀ k, k < 256 → u k = 0) (fun u => [(r, .inr (4, [.ref ri, .int (iZ iL), .int (iZ go), .ref ro, .int (iZ oL), .ref rc, .int (iZ (o : Int)), .ref rp, .ref rs, .ref rd, .ref rk, .ref rh, .int (iZ bP), .int (iZ bR)])), (rh, .inl (cZ, 256, .inl (zA u)))]) (va_A [(r, .inr (4, [.ref ri, .int (iZ iL), .int (iZ go), .ref ro, .int (iZ oL), .ref rc, .int (iZ (o : Int)), .ref rp, .ref rs, .ref rd, .ref rk, .ref rh, .int (iZ bP), .int (iZ bR)])), (rh, .inl (cZ, 256, .inl (zA xh)))] sz)) 0 0 (va_A [(r, .inr (4, [.ref ri, .int (iZ iL), .int (iZ go), .ref ro, .int (iZ oL), .ref rc, .int (iZ (o : Int)), .ref rp, .ref rs, .ref rd, .ref rk, .ref rh, .int (iZ bP), .int (iZ bR)])), (rh, .inl (cZ, 256, .inl (zA xh)))] sz) := by
  refine z_ofv (by decide) (Nat.le_of_ble_eq_true rfl) rfl ?_
  intro p e s m args below meth c A Q E jmn jA jK jret H locs jP jD jS ls jl
  obtain ⟨jx, jb, jrt, jml, jown, jts, jlk⟩ := E
  have jown : s.vm.findClass R_Mod = some m.cls := jown
  have jl : lv_has ls 2 [(0, .ref r)] := jl
  refine lv_iconst (v := iZ 0) jx jb d_Mod_newRound_0 rfl ?_
  refine lv_istore_n (lv' := [(1, .int (iZ 0)), (0, .ref r)]) jx jb d_Mod_newRound_1 rfl jl (by decide) rfl (fun ls jl => ?_)
  have hloop2 : ∀ (nF : Nat) (i : Nat) (y2 : Nat → Int), 256 - i < nF → (i ≤ 256) → (∀ k, k < i → y2 k = 0) → ∀ (H : Heap) (locs : List Loc), va_P D classes [(r, .inr (4, [.ref ri, .int (iZ iL), .int (iZ go), .ref ro, .int (iZ oL), .ref rc, .int (iZ (o : Int)), .ref rp, .ref rs, .ref rd, .ref rk, .ref rh, .int (iZ bP), .int (iZ bR)])), (rh, .inl (cZ, 256, .inl (zA y2)))] H → va_D A [(r, .inr (4, [.ref ri, .int (iZ iL), .int (iZ go), .ref ro, .int (iZ oL), .ref rc, .int (iZ (o : Int)), .ref rp, .ref rs, .ref rd, .ref rk, .ref rh, .int (iZ bP), .int (iZ bR)])), (rh, .inl (cZ, 256, .inl (zA y2)))] → va_S A s.heap H locs → ∀ ls : Array Slot, lv_has ls 2 [(0, .ref r), (1, .int (iZ (i : Int)))] → W p l e rm_M_newRound s m args below meth c H locs 0 0 Q (F0 m 2 ls []) := by
    intro nF
    induction nF with
    | zero => intro i y2 hm; exact absurd hm (Nat.not_lt_zero _)
    | succ nF ih2 =>
      intro i y2 hm hi hg H locs jP jD jS ls jl
      refine lv_iload_n jx jb d_Mod_newRound_2 rfl (lv_at jl 1 rfl) ?_
      refine lv_sipush (v := iZ 256) jx jb d_Mod_newRound_3 (by decide) ?_
      refine z_icmp_ge (tgt := 22) jx jb d_Mod_newRound_6 (by decide) ⟨⟨by omega, by omega⟩, ⟨by decide, by decide⟩⟩ (fun hc6 => ?_) (fun hc6 => ?_)
      ·
        exact jret _ _ (y2) _ _ (fun k h => hg k (by omega)) (jP.sub [0, 1] rfl) (jD.sub [0, 1] (by decide) rfl) jS d_Mod_newRound_22
      ·
        refine lv_aload_n jx jb d_Mod_newRound_9 rfl (lv_at jl 0 rfl) ?_
        refine va_get (D := D) (ci := 4) (v := .ref rh) (C := R_Mod) (T := F_Mod) (N := 14) jx jb jts i_Mod jown jK.1 jP 0 rfl rfl 11 (by decide) (jts _ fl_Mod_31) (fun _ h9 => h9) rfl d_Mod_newRound_10 ?_
        refine lv_iload_n jx jb d_Mod_newRound_13 rfl (lv_at jl 1 rfl) ?_
        refine lv_iconst (v := iZ 0) jx jb d_Mod_newRound_14 rfl ?_
        refine z_zast jx jb jK.1 jP jD jS 1 2 rfl rfl i (by omega) (Or.inl rfl) d_Mod_newRound_15 (fun H locs jP jD jS => ?_)
        have jP : va_P D classes [(r, .inr (4, [.ref ri, .int (iZ iL), .int (iZ go), .ref ro, .int (iZ oL), .ref rc, .int (iZ (o : Int)), .ref rp, .ref rs, .ref rd, .ref rk, .ref rh, .int (iZ bP), .int (iZ bR)])), (rh, .inl (cZ, 256, .inl (zA (zu y2 i 0))))] H := jP
        have jD : va_D A [(r, .inr (4, [.ref ri, .int (iZ iL), .int (iZ go), .ref ro, .int (iZ oL), .ref rc, .int (iZ (o : Int)), .ref rp, .ref rs, .ref rd, .ref rk, .ref rh, .int (iZ bP), .int (iZ bR)])), (rh, .inl (cZ, 256, .inl (zA (zu y2 i 0))))] := jD
        refine lv_iinc (v := iZ ((i : Int) + 1)) (lv' := [(1, .int (iZ ((i : Int) + 1))), (0, .ref r)]) jx jb d_Mod_newRound_16 jl (k := 1) rfl (iZ_add _ _) (by decide) rfl (fun ls jl => ?_)
        refine lv_goto (tgt := 2) jx jb d_Mod_newRound_19 (by decide) ?_
        exact ih2 (i + 1) (zu y2 i 0) (by omega) (by first | assumption | omega) (zu_all (v := fun _ => 0) hg rfl) _ _ (jP.sub [0, 1] rfl) (jD.sub [0, 1] (by decide) rfl) jS _ (lv_sub jl [1, 0] rfl)
  exact hloop2 ((256 - 0) + 1) 0 xh (Nat.lt_succ_self _) (by first | assumption | omega) (fun k h => absurd h (by omega)) _ _ (jP.sub [0, 1] rfl) (jD.sub [0, 1] (by decide) rfl) jS _ (lv_sub jl [1, 0] rfl)
abbrev rm_M_nextToGet : Room := { frames := 0, cells := 0, slots := 0, locals := 0 }
set_option maxHeartbeats 4000000 in
set_option maxRecDepth 100000 in
theorem c_M_nextToGet (l : Launch) (D : va_G) (cI cB cZ : ClassId) (r : Nat) (ri : Nat) (ro : Nat) (rc : Nat) (rp : Nat) (rs : Nat) (rd : Nat) (rk : Nat) (rh : Nat) (iL : Int) (go : Int) (oL : Int) (o : Nat) (bP : Int) (bR : Int) (xd : Nat → Int) (xk : Nat → Int) (xh : Nat → Int) (hdr : ∀ k, k < 256 → -1 ≤ xd k ∧ xd k ≤ 65536) (hkk : ∀ k, k < 256 → 0 ≤ xk k ∧ xk k < 2147483648) (hxh : ∀ k, k < 256 → xh k = 0 ∨ xh k = 1) : Met l y_Mod_nextToGet (.code y_Mod_nextToGet b_Mod_nextToGet 3 (some .int) :: zT) rm_M_nextToGet (zRc D classes (TY cI cB cZ) [(r, .inr (4, [.ref ri, .int (iZ iL), .int (iZ go), .ref ro, .int (iZ oL), .ref rc, .int (iZ (o : Int)), .ref rp, .ref rs, .ref rd, .ref rk, .ref rh, .int (iZ bP), .int (iZ bR)])), (rd, .inl (cI, 256, .inl (zA xd))), (rk, .inl (cI, 256, .inl (zA xk))), (rh, .inl (cZ, 256, .inl (zA xh)))] [.ref r]) (zSi (fun z => nxI xd xk xh 256 z)) 0 0 (fun _ => False) := by
  refine z_ofr (by decide) (Nat.le_of_ble_eq_true rfl) (Or.inl rfl) ?_
  intro p e s m args below meth c Q E jP jK jret ls jl
  obtain ⟨jx, jb, jrt, jml, jown, jts, jlk⟩ := E
  have jown : s.vm.findClass R_Mod = some m.cls := jown
  have jl : lv_has ls 3 [(0, .ref r)] := jl
  refine lv_iconst (v := iZ (-1)) jx jb d_Mod_nextToGet_0 rfl ?_
  refine lv_istore_n (lv' := [(1, .int (iZ (-1))), (0, .ref r)]) jx jb d_Mod_nextToGet_1 rfl jl (by decide) rfl (fun ls jl => ?_)
  refine lv_iconst (v := iZ 0) jx jb d_Mod_nextToGet_2 rfl ?_
  refine lv_istore_n (lv' := [(2, .int (iZ 0)), (1, .int (iZ (-1))), (0, .ref r)]) jx jb d_Mod_nextToGet_3 rfl jl (by decide) rfl (fun ls jl => ?_)
  have hloop4 : ∀ (nF : Nat) (i : Nat) (v : Int), 256 - i < nF → (i ≤ 256) → (nxI xd xk xh i v) → ∀ ls : Array Slot, lv_has ls 3 [(0, .ref r), (1, .int (iZ v)), (2, .int (iZ (i : Int)))] → W p l e rm_M_nextToGet s m args below meth c s.heap [] 0 0 Q (F0 m 4 ls []) := by
    intro nF
    induction nF with
    | zero => intro i v hm; exact absurd hm (Nat.not_lt_zero _)
    | succ nF ih4 =>
      intro i v hm hi hv ls jl
      refine lv_iload_n jx jb d_Mod_nextToGet_4 rfl (lv_at jl 2 rfl) ?_
      refine lv_sipush (v := iZ 256) jx jb d_Mod_nextToGet_5 (by decide) ?_
      refine z_icmp_ge (tgt := 58) jx jb d_Mod_nextToGet_8 (by decide) ⟨⟨by omega, by omega⟩, ⟨by decide, by decide⟩⟩ (fun hc8 => ?_) (fun hc8 => ?_)
      ·
        obtain rfl : 256 = i := by omega
        refine lv_iload_n jx jb d_Mod_nextToGet_58 rfl (lv_at jl 1 rfl) ?_
        exact jret _ _ _ (Or.inl rfl) (hv) d_Mod_nextToGet_59
      ·
        have hhi := hxh i (by omega)
        have hdi := hdr i (by omega)
        have hki := hkk i (by omega)
        have hvb := nx_b hv
        refine lv_aload_n jx jb d_Mod_nextToGet_11 rfl (lv_at jl 0 rfl) ?_
        refine va_get (D := D) (ci := 4) (v := .ref rh) (C := R_Mod) (T := F_Mod) (N := 14) jx jb jts i_Mod jown jK.1 jP 0 rfl rfl 11 (by decide) (jts _ fl_Mod_31) (fun _ h9 => h9) rfl d_Mod_nextToGet_12 ?_
        refine lv_iload_n jx jb d_Mod_nextToGet_15 rfl (lv_at jl 2 rfl) ?_
        refine z_zald jx jb jK.1 jP 3 2 rfl rfl i (by omega) d_Mod_nextToGet_16 ?_
        refine z_if_ne (tgt := 52) jx jb d_Mod_nextToGet_17 (by decide) ⟨by omega, by omega⟩ (fun hc17 => ?_) (fun hc17 => ?_)
        ·
          refine lv_iinc (v := iZ ((i : Int) + 1)) (lv' := [(2, .int (iZ ((i : Int) + 1))), (0, .ref r), (1, .int (iZ v))]) jx jb d_Mod_nextToGet_52 jl (k := 2) rfl (iZ_add _ _) (by decide) rfl (fun ls jl => ?_)
          refine lv_goto (tgt := 4) jx jb d_Mod_nextToGet_55 (by decide) ?_
          exact ih4 (i + 1) v (by omega) (by first | assumption | omega) (by first | exact nx_h hv hc17 | exact nx_d hv hc27 | exact nx_k hv hn0 hc47 | exact nx_f hv hc32 hc17 hc27 | exact nx_t hv hn0 hc47 hc17 hc27) _ (lv_sub jl [1, 2, 0] rfl)
        ·
          refine lv_aload_n jx jb d_Mod_nextToGet_20 rfl (lv_at jl 0 rfl) ?_
          refine va_get (D := D) (ci := 4) (v := .ref rd) (C := R_Mod) (T := F_Mod) (N := 14) jx jb jts i_Mod jown jK.1 jP 0 rfl rfl 9 (by decide) (jts _ fl_Mod_25) (fun _ h9 => h9) rfl d_Mod_nextToGet_21 ?_
          refine lv_iload_n jx jb d_Mod_nextToGet_24 rfl (lv_at jl 2 rfl) ?_
          refine z_iald jx jb jK.1 jP 1 0 rfl rfl i (by omega) d_Mod_nextToGet_25 ?_
          refine lv_iconst (v := iZ 1) jx jb d_Mod_nextToGet_26 rfl ?_
          refine z_icmp_lt (tgt := 52) jx jb d_Mod_nextToGet_27 (by decide) ⟨⟨by omega, by omega⟩, ⟨by decide, by decide⟩⟩ (fun hc27 => ?_) (fun hc27 => ?_)
          ·
            refine lv_iinc (v := iZ ((i : Int) + 1)) (lv' := [(2, .int (iZ ((i : Int) + 1))), (0, .ref r), (1, .int (iZ v))]) jx jb d_Mod_nextToGet_52 jl (k := 2) rfl (iZ_add _ _) (by decide) rfl (fun ls jl => ?_)
            refine lv_goto (tgt := 4) jx jb d_Mod_nextToGet_55 (by decide) ?_
            exact ih4 (i + 1) v (by omega) (by first | assumption | omega) (by first | exact nx_h hv hc17 | exact nx_d hv hc27 | exact nx_k hv hn0 hc47 | exact nx_f hv hc32 hc17 hc27 | exact nx_t hv hn0 hc47 hc17 hc27) _ (lv_sub jl [1, 2, 0] rfl)
          ·
            refine lv_iload_n jx jb d_Mod_nextToGet_30 rfl (lv_at jl 1 rfl) ?_
            refine lv_iconst (v := iZ (-1)) jx jb d_Mod_nextToGet_31 rfl ?_
            refine z_icmp_eq (tgt := 50) jx jb d_Mod_nextToGet_32 (by decide) ⟨⟨by omega, by omega⟩, ⟨by decide, by decide⟩⟩ (fun hc32 => ?_) (fun hc32 => ?_)
            ·
              refine lv_iload_n jx jb d_Mod_nextToGet_50 rfl (lv_at jl 2 rfl) ?_
              refine lv_istore_n (lv' := [(1, .int (iZ (i : Int))), (0, .ref r), (2, .int (iZ (i : Int)))]) jx jb d_Mod_nextToGet_51 rfl jl (by decide) rfl (fun ls jl => ?_)
              refine lv_iinc (v := iZ ((i : Int) + 1)) (lv' := [(2, .int (iZ ((i : Int) + 1))), (1, .int (iZ (i : Int))), (0, .ref r)]) jx jb d_Mod_nextToGet_52 jl (k := 2) rfl (iZ_add _ _) (by decide) rfl (fun ls jl => ?_)
              refine lv_goto (tgt := 4) jx jb d_Mod_nextToGet_55 (by decide) ?_
              exact ih4 (i + 1) (i : Int) (by omega) (by first | assumption | omega) (by first | exact nx_h hv hc17 | exact nx_d hv hc27 | exact nx_k hv hn0 hc47 | exact nx_f hv hc32 hc17 hc27 | exact nx_t hv hn0 hc47 hc17 hc27) _ (lv_sub jl [2, 1, 0] rfl)
            ·
              obtain ⟨n9, hn0, hn1⟩ := nx_n hv hc32
              have hkn := hkk n9 (by omega)
              refine lv_aload_n jx jb d_Mod_nextToGet_35 rfl (lv_at jl 0 rfl) ?_
              refine va_get (D := D) (ci := 4) (v := .ref rk) (C := R_Mod) (T := F_Mod) (N := 14) jx jb jts i_Mod jown jK.1 jP 0 rfl rfl 10 (by decide) (jts _ fl_Mod_28) (fun _ h9 => h9) rfl d_Mod_nextToGet_36 ?_
              refine lv_iload_n jx jb d_Mod_nextToGet_39 rfl (lv_at jl 2 rfl) ?_
              refine z_iald jx jb jK.1 jP 2 0 rfl rfl i (by omega) d_Mod_nextToGet_40 ?_
              refine lv_aload_n jx jb d_Mod_nextToGet_41 rfl (lv_at jl 0 rfl) ?_
              refine va_get (D := D) (ci := 4) (v := .ref rk) (C := R_Mod) (T := F_Mod) (N := 14) jx jb jts i_Mod jown jK.1 jP 0 rfl rfl 10 (by decide) (jts _ fl_Mod_28) (fun _ h9 => h9) rfl d_Mod_nextToGet_42 ?_
              refine lv_iload_n jx jb d_Mod_nextToGet_45 rfl (lv_at jl 1 rfl) ?_
              refine z_top (n9 : Int) (hn0) ?_
              refine z_iald jx jb jK.1 jP 2 0 rfl rfl n9 (by omega) d_Mod_nextToGet_46 ?_
              refine z_icmp_le (tgt := 52) jx jb d_Mod_nextToGet_47 (by decide) ⟨⟨by omega, by omega⟩, ⟨by omega, by omega⟩⟩ (fun hc47 => ?_) (fun hc47 => ?_)
              ·
                refine lv_iinc (v := iZ ((i : Int) + 1)) (lv' := [(2, .int (iZ ((i : Int) + 1))), (0, .ref r), (1, .int (iZ v))]) jx jb d_Mod_nextToGet_52 jl (k := 2) rfl (iZ_add _ _) (by decide) rfl (fun ls jl => ?_)
                refine lv_goto (tgt := 4) jx jb d_Mod_nextToGet_55 (by decide) ?_
                exact ih4 (i + 1) v (by omega) (by first | assumption | omega) (by first | exact nx_h hv hc17 | exact nx_d hv hc27 | exact nx_k hv hn0 hc47 | exact nx_f hv hc32 hc17 hc27 | exact nx_t hv hn0 hc47 hc17 hc27) _ (lv_sub jl [1, 2, 0] rfl)
              ·
                refine lv_iload_n jx jb d_Mod_nextToGet_50 rfl (lv_at jl 2 rfl) ?_
                refine lv_istore_n (lv' := [(1, .int (iZ (i : Int))), (0, .ref r), (2, .int (iZ (i : Int)))]) jx jb d_Mod_nextToGet_51 rfl jl (by decide) rfl (fun ls jl => ?_)
                refine lv_iinc (v := iZ ((i : Int) + 1)) (lv' := [(2, .int (iZ ((i : Int) + 1))), (1, .int (iZ (i : Int))), (0, .ref r)]) jx jb d_Mod_nextToGet_52 jl (k := 2) rfl (iZ_add _ _) (by decide) rfl (fun ls jl => ?_)
                refine lv_goto (tgt := 4) jx jb d_Mod_nextToGet_55 (by decide) ?_
                exact ih4 (i + 1) (i : Int) (by omega) (by first | assumption | omega) (by first | exact nx_h hv hc17 | exact nx_d hv hc27 | exact nx_k hv hn0 hc47 | exact nx_f hv hc32 hc17 hc27 | exact nx_t hv hn0 hc47 hc17 hc27) _ (lv_sub jl [2, 1, 0] rfl)
  exact hloop4 ((256 - 0) + 1) 0 (-1) (Nat.lt_succ_self _) (by first | assumption | omega) (nx_0) _ (lv_sub jl [2, 1, 0] rfl)
abbrev rm_M_giveOut : Room := { frames := 1, cells := 0, slots := 0, locals := 22 }
set_option maxHeartbeats 4000000 in
set_option maxRecDepth 100000 in
theorem c_M_giveOut (l : Launch) (D : va_G) (cI cB cZ : ClassId) (sz : Nat) (r : Nat) (ri : Nat) (ro : Nat) (rc : Nat) (rp : Nat) (rs : Nat) (rd : Nat) (rk : Nat) (rh : Nat) (iL : Int) (go : Int) (oL : Int) (o : Nat) (bP : Int) (bR : Int) (xd : Nat → Int) (xk : Nat → Int) (xh : Nat → Int) (x : Int) (hdr : ∀ k, k < 256 → -1 ≤ xd k ∧ xd k ≤ 4096) (hkk : ∀ k, k < 256 → 0 ≤ xk k ∧ xk k < 2147483648) (hx1 : -100000 ≤ x ∧ x ≤ 60000) (hx2 : x ≤ 0 ∨ x < numR xd 256) : Met l y_Mod_giveOut (.code y_Mod_giveOut b_Mod_giveOut 4 none :: zT) rm_M_giveOut (zPc D classes (TY cI cB cZ) [(r, .inr (4, [.ref ri, .int (iZ iL), .int (iZ go), .ref ro, .int (iZ oL), .ref rc, .int (iZ (o : Int)), .ref rp, .ref rs, .ref rd, .ref rk, .ref rh, .int (iZ bP), .int (iZ bR)])), (rd, .inl (cI, 256, .inl (zA xd))), (rk, .inl (cI, 256, .inl (zA xk))), (rh, .inl (cZ, 256, .inl (zA xh)))] sz [.ref r, .int (iZ x)]) (zFv (S := (Nat → Int) × (Nat → Int)) D classes (fun u => (∀ k, k < 256 → u.1 k = gv xd xk x k) ∧ cum u.1 256 = cum xd 256 + (x.toNat : Int)) (fun u => [(r, .inr (4, [.ref ri, .int (iZ iL), .int (iZ go), .ref ro, .int (iZ oL), .ref rc, .int (iZ (o : Int)), .ref rp, .ref rs, .ref rd, .ref rk, .ref rh, .int (iZ bP), .int (iZ bR)])), (rd, .inl (cI, 256, .inl (zA u.1))), (rk, .inl (cI, 256, .inl (zA xk))), (rh, .inl (cZ, 256, .inl (zA u.2)))]) (va_A [(r, .inr (4, [.ref ri, .int (iZ iL), .int (iZ go), .ref ro, .int (iZ oL), .ref rc, .int (iZ (o : Int)), .ref rp, .ref rs, .ref rd, .ref rk, .ref rh, .int (iZ bP), .int (iZ bR)])), (rd, .inl (cI, 256, .inl (zA xd))), (rk, .inl (cI, 256, .inl (zA xk))), (rh, .inl (cZ, 256, .inl (zA xh)))] sz)) 0 0 (va_A [(r, .inr (4, [.ref ri, .int (iZ iL), .int (iZ go), .ref ro, .int (iZ oL), .ref rc, .int (iZ (o : Int)), .ref rp, .ref rs, .ref rd, .ref rk, .ref rh, .int (iZ bP), .int (iZ bR)])), (rd, .inl (cI, 256, .inl (zA xd))), (rk, .inl (cI, 256, .inl (zA xk))), (rh, .inl (cZ, 256, .inl (zA xh)))] sz) := by
  refine z_ofv (by decide) (Nat.le_of_ble_eq_true rfl) rfl ?_
  intro p e s m args below meth c A Q E jmn jA jK jret H locs jP jD jS ls jl
  obtain ⟨jx, jb, jrt, jml, jown, jts, jlk⟩ := E
  have jown : s.vm.findClass R_Mod = some m.cls := jown
  have jl : lv_has ls 4 [(0, .ref r), (1, .int (iZ x))] := jl
  refine lv_aload_n jx jb d_Mod_giveOut_0 rfl (lv_at jl 0 rfl) ?_
  refine z_backv (wr := [(rd, .inl (cI, 256, .inl (zA xd))), (rk, .inl (cI, 256, .inl (zA xk)))]) jP jD jS jA [0, 3] [1, 2] rfl rfl (by decide) (by decide) (va_runV (As := []) (rest := []) ⟨jx, jb, jml, jown, jts⟩ (c_M_newRound l D cI cB cZ H.size r ri ro rc rp rs rd rk rh iL go oL o bP bR xh) (zc_V 0 jts cd_Mod_newRound lk_Mod_53 im_Mod_newRound se_Mod_newRound in_Mod hd_Mod_newRound ⟨Nat.le_of_ble_eq_true rfl, Nat.le_of_ble_eq_true rfl⟩ rfl rfl) (z_preV jK jP jD [0, 3] (by decide) rfl rfl rfl rfl) rfl rfl jl.1 rfl (lv_room (Nat.le_of_ble_eq_true rfl)) d_Mod_giveOut_1 ⟨Nat.le_of_ble_eq_true rfl, Nat.le_of_ble_eq_true rfl⟩) (fun u1 H locs hu1 jP jD jS => ?_)
  obtain ⟨xh1_1, rfl⟩ : ∃ z, z = u1 := ⟨_, rfl⟩
  have jP : va_P D classes [(r, .inr (4, [.ref ri, .int (iZ iL), .int (iZ go), .ref ro, .int (iZ oL), .ref rc, .int (iZ (o : Int)), .ref rp, .ref rs, .ref rd, .ref rk, .ref rh, .int (iZ bP), .int (iZ bR)])), (rd, .inl (cI, 256, .inl (zA xd))), (rk, .inl (cI, 256, .inl (zA xk))), (rh, .inl (cZ, 256, .inl (zA xh1_1)))] H := jP.sub [2, 0, 1, 3] rfl
  have jD : va_D A [(r, .inr (4, [.ref ri, .int (iZ iL), .int (iZ go), .ref ro, .int (iZ oL), .ref rc, .int (iZ (o : Int)), .ref rp, .ref rs, .ref rd, .ref rk, .ref rh, .int (iZ bP), .int (iZ bR)])), (rd, .inl (cI, 256, .inl (zA xd))), (rk, .inl (cI, 256, .inl (zA xk))), (rh, .inl (cZ, 256, .inl (zA xh1_1)))] := jD.sub [2, 0, 1, 3] (by decide) rfl
  refine lv_iconst (v := iZ 0) jx jb d_Mod_giveOut_4 rfl ?_
  refine lv_istore_n (lv' := [(2, .int (iZ 0)), (0, .ref r), (1, .int (iZ x))]) jx jb d_Mod_giveOut_5 rfl jl (by decide) rfl (fun ls jl => ?_)
  have hloop6 : ∀ (nF : Nat) (k : Nat) (d2 : Nat → Int) (y2 : Nat → Int), x.toNat - k < nF → (k ≤ x.toNat) → (∀ u, u < 256 → d2 u = gv xd xk (k : Int) u) → (cum d2 256 = cum xd 256 + (k : Int)) → (hdI xd xk (k : Int) y2) → (cnk xd xk (k : Int) = (k : Int)) → ∀ (H : Heap) (locs : List Loc), va_P D classes [(r, .inr (4, [.ref ri, .int (iZ iL), .int (iZ go), .ref ro, .int (iZ oL), .ref rc, .int (iZ (o : Int)), .ref rp, .ref rs, .ref rd, .ref rk, .ref rh, .int (iZ bP), .int (iZ bR)])), (rd, .inl (cI, 256, .inl (zA d2))), (rk, .inl (cI, 256, .inl (zA xk))), (rh, .inl (cZ, 256, .inl (zA y2)))] H → va_D A [(r, .inr (4, [.ref ri, .int (iZ iL), .int (iZ go), .ref ro, .int (iZ oL), .ref rc, .int (iZ (o : Int)), .ref rp, .ref rs, .ref rd, .ref rk, .ref rh, .int (iZ bP), .int (iZ bR)])), (rd, .inl (cI, 256, .inl (zA d2))), (rk, .inl (cI, 256, .inl (zA xk))), (rh, .inl (cZ, 256, .inl (zA y2)))] → va_S A s.heap H locs → ∀ ls : Array Slot, lv_has ls 4 [(0, .ref r), (1, .int (iZ x)), (2, .int (iZ (k : Int)))] → W p l e rm_M_giveOut s m args below meth c H locs 0 0 Q (F0 m 6 ls []) := by
    intro nF
    induction nF with
    | zero => intro k d2 y2 hm; exact absurd hm (Nat.not_lt_zero _)
    | succ nF ih6 =>
      intro k d2 y2 hm hk h1 h3 h4 h5 H locs jP jD jS ls jl
      refine lv_iload_n jx jb d_Mod_giveOut_6 rfl (lv_at jl 2 rfl) ?_
      refine lv_iload_n jx jb d_Mod_giveOut_7 rfl (lv_at jl 1 rfl) ?_
      refine z_icmp_ge (tgt := 53) jx jb d_Mod_giveOut_8 (by decide) ⟨⟨by omega, by omega⟩, ⟨by omega, by omega⟩⟩ (fun hc8 => ?_) (fun hc8 => ?_)
      ·
        exact jret _ _ (d2, y2) _ _ (⟨fun u hu => (h1 u hu).trans (gv_end hk hc8), by show cum d2 256 = cum xd 256 + (x.toNat : Int); omega⟩) (jP.sub [0, 1, 2, 3] rfl) (jD.sub [0, 1, 2, 3] (by decide) rfl) jS d_Mod_giveOut_53
      ·
        refine lv_aload_n jx jb d_Mod_giveOut_11 rfl (lv_at jl 0 rfl) ?_
        refine z_backr (va_runV (As := []) (rest := []) ⟨jx, jb, jml, jown, jts⟩ (c_M_nextToGet l D cI cB cZ r ri ro rc rp rs rd rk rh iL go oL o bP bR d2 xk y2 (fun u hu => by rw [h1 u hu]; exact gv_b (hdr u hu)) (hkk) (hd_01 h4)) (zc_V 0 jts cd_Mod_nextToGet lk_Mod_56 im_Mod_nextToGet se_Mod_nextToGet in_Mod hd_Mod_nextToGet ⟨Nat.le_of_ble_eq_true rfl, Nat.le_of_ble_eq_true rfl⟩ rfl rfl) (z_preVR jK jP [0, 1, 2, 3] rfl rfl rfl) rfl rfl jl.1 rfl (lv_room (Nat.le_of_ble_eq_true rfl)) d_Mod_giveOut_12 ⟨Nat.le_of_ble_eq_true rfl, Nat.le_of_ble_eq_true rfl⟩) (fun z12 hz12 => ?_)
        have hq12 := hz12
        obtain ⟨b9, hb0, hb1, hb2, hb3⟩ := go_pick h1 h4 h5 (by omega) hq12
        have hd9 := h1 b9 hb1
        have hg9 := gv_pos (ct := xk) (m := (k : Int)) hb2
        refine z_top (b9 : Int) (hb0) ?_
        refine lv_istore_n (lv' := [(3, .int (iZ (b9 : Int))), (0, .ref r), (1, .int (iZ x)), (2, .int (iZ (k : Int)))]) jx jb d_Mod_giveOut_15 rfl jl (by decide) rfl (fun ls jl => ?_)
        refine lv_iload_n jx jb d_Mod_giveOut_16 rfl (lv_at jl 0 rfl) ?_
        refine lv_iconst (v := iZ (-1)) jx jb d_Mod_giveOut_17 rfl ?_
        refine z_icmp_ne (tgt := 30) jx jb d_Mod_giveOut_18 (by decide) ⟨⟨by omega, by omega⟩, ⟨by decide, by decide⟩⟩ (fun hc18 => ?_) (fun hc18 => ?_)
        ·
          refine lv_aload_n jx jb d_Mod_giveOut_30 rfl (lv_at jl 1 rfl) ?_
          refine va_get (D := D) (ci := 4) (v := .ref rd) (C := R_Mod) (T := F_Mod) (N := 14) jx jb jts i_Mod jown jK.1 jP 0 rfl rfl 9 (by decide) (jts _ fl_Mod_25) (fun _ h9 => h9) rfl d_Mod_giveOut_31 ?_
          refine lv_iload_n jx jb d_Mod_giveOut_34 rfl (lv_at jl 0 rfl) ?_
          refine lv_dup2_11 jx jb d_Mod_giveOut_35 rfl rfl ?_
          refine z_iald jx jb jK.1 jP 1 0 rfl rfl b9 (by omega) d_Mod_giveOut_36 ?_
          refine lv_iconst (v := iZ 1) jx jb d_Mod_giveOut_37 rfl ?_
          refine z_iadd jx jb d_Mod_giveOut_38 ?_
          refine z_iast jx jb jK.1 jP jD jS 1 0 rfl rfl b9 (by omega) d_Mod_giveOut_39 (fun H locs jP jD jS => ?_)
          have jP : va_P D classes [(r, .inr (4, [.ref ri, .int (iZ iL), .int (iZ go), .ref ro, .int (iZ oL), .ref rc, .int (iZ (o : Int)), .ref rp, .ref rs, .ref rd, .ref rk, .ref rh, .int (iZ bP), .int (iZ bR)])), (rd, .inl (cI, 256, .inl (zA (zu d2 b9 ((d2 b9) + 1))))), (rk, .inl (cI, 256, .inl (zA xk))), (rh, .inl (cZ, 256, .inl (zA y2)))] H := jP
          have jD : va_D A [(r, .inr (4, [.ref ri, .int (iZ iL), .int (iZ go), .ref ro, .int (iZ oL), .ref rc, .int (iZ (o : Int)), .ref rp, .ref rs, .ref rd, .ref rk, .ref rh, .int (iZ bP), .int (iZ bR)])), (rd, .inl (cI, 256, .inl (zA (zu d2 b9 ((d2 b9) + 1))))), (rk, .inl (cI, 256, .inl (zA xk))), (rh, .inl (cZ, 256, .inl (zA y2)))] := jD
          refine lv_aload_n jx jb d_Mod_giveOut_40 rfl (lv_at jl 1 rfl) ?_
          refine va_get (D := D) (ci := 4) (v := .ref rh) (C := R_Mod) (T := F_Mod) (N := 14) jx jb jts i_Mod jown jK.1 jP 0 rfl rfl 11 (by decide) (jts _ fl_Mod_31) (fun _ h9 => h9) rfl d_Mod_giveOut_41 ?_
          refine lv_iload_n jx jb d_Mod_giveOut_44 rfl (lv_at jl 0 rfl) ?_
          refine lv_iconst (v := iZ 1) jx jb d_Mod_giveOut_45 rfl ?_
          refine z_zast jx jb jK.1 jP jD jS 3 2 rfl rfl b9 (by omega) (Or.inr rfl) d_Mod_giveOut_46 (fun H locs jP jD jS => ?_)
          have jP : va_P D classes [(r, .inr (4, [.ref ri, .int (iZ iL), .int (iZ go), .ref ro, .int (iZ oL), .ref rc, .int (iZ (o : Int)), .ref rp, .ref rs, .ref rd, .ref rk, .ref rh, .int (iZ bP), .int (iZ bR)])), (rd, .inl (cI, 256, .inl (zA (zu d2 b9 ((d2 b9) + 1))))), (rk, .inl (cI, 256, .inl (zA xk))), (rh, .inl (cZ, 256, .inl (zA (zu y2 b9 1))))] H := jP
          have jD : va_D A [(r, .inr (4, [.ref ri, .int (iZ iL), .int (iZ go), .ref ro, .int (iZ oL), .ref rc, .int (iZ (o : Int)), .ref rp, .ref rs, .ref rd, .ref rk, .ref rh, .int (iZ bP), .int (iZ bR)])), (rd, .inl (cI, 256, .inl (zA (zu d2 b9 ((d2 b9) + 1))))), (rk, .inl (cI, 256, .inl (zA xk))), (rh, .inl (cZ, 256, .inl (zA (zu y2 b9 1))))] := jD
          refine lv_iinc (v := iZ ((k : Int) + 1)) (lv' := [(2, .int (iZ ((k : Int) + 1))), (3, .int (iZ (b9 : Int))), (0, .ref r), (1, .int (iZ x))]) jx jb d_Mod_giveOut_47 jl (k := 3) rfl (iZ_add _ _) (by decide) rfl (fun ls jl => ?_)
          refine lv_goto (tgt := 6) jx jb d_Mod_giveOut_50 (by decide) ?_
          exact ih6 (k + 1) (zu d2 b9 ((d2 b9) + 1)) (zu y2 b9 1) (by omega) (by first | assumption | omega) (gv_s hb1 hb2 hb3 h1) (by rw [cum_inc hb1 (by omega)]; omega) (hd_s hb1 hb2 hb3 h4) (pk_c h5 hb1 hb2 hb3) _ _ (jP.sub [0, 1, 2, 3] rfl) (jD.sub [0, 1, 2, 3] (by decide) rfl) jS _ (lv_sub jl [2, 3, 0] rfl)
        ·
          exfalso; omega
  exact hloop6 ((x.toNat - 0) + 1) 0 xd xh1_1 (Nat.lt_succ_self _) (by first | assumption | omega) (fun u hu => (gv_0 (by omega)).symm) (by first | assumption | omega) (hd_0 hu1) (cnk_0) _ _ (jP.sub [0, 1, 2, 3] rfl) (jD.sub [0, 1, 2, 3] (by decide) rfl) jS _ (lv_sub jl [1, 2, 0] rfl)
abbrev rm_M_share : Room := { frames := 2, cells := 0, slots := 0, locals := 45 }
set_option maxHeartbeats 4000000 in
set_option maxRecDepth 100000 in
theorem c_M_share (l : Launch) (D : va_G) (cI cB cZ : ClassId) (sz : Nat) (r : Nat) (ri : Nat) (ro : Nat) (rc : Nat) (rp : Nat) (rs : Nat) (rd : Nat) (rk : Nat) (rh : Nat) (iL : Int) (go : Int) (oL : Int) (o : Nat) (bP : Int) (bR : Int) (xc : Nat → Int) (xp : Nat → Int) (xs : Nat → Int) (xd : Nat → Int) (xk : Nat → Int) (xh : Nat → Int) (x : Int) (hcr : ∀ k, k < 256 → 0 ≤ xc k ∧ xc k ≤ 65535) (hx1 : -2147483648 ≤ x ∧ x < 2147483648) : Met l y_Mod_share (.code y_Mod_share b_Mod_share 6 (some .boolean) :: zT) rm_M_share (zPc D classes (TY cI cB cZ) [(r, .inr (4, [.ref ri, .int (iZ iL), .int (iZ go), .ref ro, .int (iZ oL), .ref rc, .int (iZ (o : Int)), .ref rp, .ref rs, .ref rd, .ref rk, .ref rh, .int (iZ bP), .int (iZ bR)])), (rc, .inl (cI, 256, .inl (zA xc))), (rp, .inl (cI, 256, .inl (zA xp))), (rs, .inl (cI, 4096, .inl (zA xs))), (rd, .inl (cI, 256, .inl (zA xd))), (rk, .inl (cI, 256, .inl (zA xk))), (rh, .inl (cZ, 256, .inl (zA xh)))] sz [.ref r, .int (iZ x)]) (zFi (S := Int × (Nat → Int) × (Nat → Int) × (Nat → Int) × (Nat → Int) × (Nat → Int)) D classes (fun z u => (z = 1 ∧ sOK xc x ∧ u.1 = x ∧ (∀ k, k < 256 → u.2.1 k = shP xc (2 ^ x.toNat) (sm xc 256) k) ∧ cum u.2.1 256 = 2 ^ x.toNat ∧ (∀ k, k < 256 → -1 ≤ u.2.1 k ∧ u.2.1 k ≤ 65536) ∧ u.2.2.1 = tbT u.2.1 x.toNat xs) ∨ (z = 0 ∧ ¬ sOK xc x ∧ u.1 = (o : Int) ∧ u.2.1 = xp ∧ u.2.2.1 = xs)) (fun u => [(r, .inr (4, [.ref ri, .int (iZ iL), .int (iZ go), .ref ro, .int (iZ oL), .ref rc, .int (iZ u.1), .ref rp, .ref rs, .ref rd, .ref rk, .ref rh, .int (iZ bP), .int (iZ bR)])), (rc, .inl (cI, 256, .inl (zA xc))), (rp, .inl (cI, 256, .inl (zA u.2.1))), (rs, .inl (cI, 4096, .inl (zA u.2.2.1))), (rd, .inl (cI, 256, .inl (zA u.2.2.2.1))), (rk, .inl (cI, 256, .inl (zA u.2.2.2.2.1))), (rh, .inl (cZ, 256, .inl (zA u.2.2.2.2.2)))]) (va_A [(r, .inr (4, [.ref ri, .int (iZ iL), .int (iZ go), .ref ro, .int (iZ oL), .ref rc, .int (iZ (o : Int)), .ref rp, .ref rs, .ref rd, .ref rk, .ref rh, .int (iZ bP), .int (iZ bR)])), (rc, .inl (cI, 256, .inl (zA xc))), (rp, .inl (cI, 256, .inl (zA xp))), (rs, .inl (cI, 4096, .inl (zA xs))), (rd, .inl (cI, 256, .inl (zA xd))), (rk, .inl (cI, 256, .inl (zA xk))), (rh, .inl (cZ, 256, .inl (zA xh)))] sz)) 0 0 (va_A [(r, .inr (4, [.ref ri, .int (iZ iL), .int (iZ go), .ref ro, .int (iZ oL), .ref rc, .int (iZ (o : Int)), .ref rp, .ref rs, .ref rd, .ref rk, .ref rh, .int (iZ bP), .int (iZ bR)])), (rc, .inl (cI, 256, .inl (zA xc))), (rp, .inl (cI, 256, .inl (zA xp))), (rs, .inl (cI, 4096, .inl (zA xs))), (rd, .inl (cI, 256, .inl (zA xd))), (rk, .inl (cI, 256, .inl (zA xk))), (rh, .inl (cZ, 256, .inl (zA xh)))] sz) := by
  refine z_ofi (by decide) (Nat.le_of_ble_eq_true rfl) (Or.inr rfl) ?_
  intro p e s m args below meth c A Q E jA jK jret H locs jP jD jS ls jl
  obtain ⟨jx, jb, jrt, jml, jown, jts, jlk⟩ := E
  have jown : s.vm.findClass R_Mod = some m.cls := jown
  have hp40 : (2 : Int) ^ 12 = 4096 := rfl
  have jl : lv_has ls 6 [(0, .ref r), (1, .int (iZ x))] := jl
  refine lv_iconst (v := iZ 0) jx jb d_Mod_share_0 rfl ?_
  refine lv_istore_n (lv' := [(2, .int (iZ 0)), (0, .ref r), (1, .int (iZ x))]) jx jb d_Mod_share_1 rfl jl (by decide) rfl (fun ls jl => ?_)
  refine lv_iconst (v := iZ 0) jx jb d_Mod_share_2 rfl ?_
  refine lv_istore_n (lv' := [(3, .int (iZ 0)), (2, .int (iZ 0)), (0, .ref r), (1, .int (iZ x))]) jx jb d_Mod_share_3 rfl jl (by decide) rfl (fun ls jl => ?_)
  refine lv_iconst (v := iZ 0) jx jb d_Mod_share_4 rfl ?_
  refine lv_istore (lv' := [(4, .int (iZ 0)), (3, .int (iZ 0)), (2, .int (iZ 0)), (0, .ref r), (1, .int (iZ x))]) jx jb d_Mod_share_5 jl (by decide) rfl (fun ls jl => ?_)
  have hloop7 : ∀ (nF : Nat) (i : Nat), 256 - i < nF → (i ≤ 256) → ∀ (H : Heap) (locs : List Loc), va_P D classes [(r, .inr (4, [.ref ri, .int (iZ iL), .int (iZ go), .ref ro, .int (iZ oL), .ref rc, .int (iZ (o : Int)), .ref rp, .ref rs, .ref rd, .ref rk, .ref rh, .int (iZ bP), .int (iZ bR)])), (rc, .inl (cI, 256, .inl (zA xc))), (rp, .inl (cI, 256, .inl (zA xp))), (rs, .inl (cI, 4096, .inl (zA xs))), (rd, .inl (cI, 256, .inl (zA xd))), (rk, .inl (cI, 256, .inl (zA xk))), (rh, .inl (cZ, 256, .inl (zA xh)))] H → va_D A [(r, .inr (4, [.ref ri, .int (iZ iL), .int (iZ go), .ref ro, .int (iZ oL), .ref rc, .int (iZ (o : Int)), .ref rp, .ref rs, .ref rd, .ref rk, .ref rh, .int (iZ bP), .int (iZ bR)])), (rc, .inl (cI, 256, .inl (zA xc))), (rp, .inl (cI, 256, .inl (zA xp))), (rs, .inl (cI, 4096, .inl (zA xs))), (rd, .inl (cI, 256, .inl (zA xd))), (rk, .inl (cI, 256, .inl (zA xk))), (rh, .inl (cZ, 256, .inl (zA xh)))] → va_S A s.heap H locs → ∀ ls : Array Slot, lv_has ls 6 [(0, .ref r), (1, .int (iZ x)), (2, .int (iZ (sm xc i))), (3, .int (iZ (usd xc i))), (4, .int (iZ (i : Int)))] → W p l e rm_M_share s m args below meth c H locs 0 0 Q (F0 m 7 ls []) := by
    intro nF
    induction nF with
    | zero => intro i hm; exact absurd hm (Nat.not_lt_zero _)
    | succ nF ih7 =>
      intro i hm hi H locs jP jD jS ls jl
      refine lv_iload jx jb d_Mod_share_7 (lv_at jl 4 rfl) ?_
      refine lv_sipush (v := iZ 256) jx jb d_Mod_share_9 (by decide) ?_
      refine z_icmp_ge (tgt := 44) jx jb d_Mod_share_12 (by decide) ⟨⟨by omega, by omega⟩, ⟨by decide, by decide⟩⟩ (fun hc12 => ?_) (fun hc12 => ?_)
      ·
        obtain rfl : 256 = i := by omega
        have hsb := sm_hi (c := xc) (n := 256) hcr
        have hub := usd_b (c := xc) (n := 256)
        refine lv_iload_n jx jb d_Mod_share_44 rfl (lv_at jl 1 rfl) ?_
        refine z_backr (va_runS (As := [.int (iZ x)]) (rest := []) ⟨jx, jb, jml, jown, jts⟩ (c_M_isOrder l D cI cB cZ x (by first | assumption | omega)) (zc_S 1 jts cd_Mod_isOrder lk_Mod_60 st_Mod_isOrder in_Mod hd_Mod_isOrder ⟨Nat.le_of_ble_eq_true rfl, Nat.le_of_ble_eq_true rfl⟩ rfl rfl) (z_preSR jK jP [] rfl) rfl rfl jl.1 rfl (lv_room (Nat.le_of_ble_eq_true rfl)) d_Mod_share_45 ⟨Nat.le_of_ble_eq_true rfl, Nat.le_of_ble_eq_true rfl⟩) (fun z45 hz45 => ?_)
        rcases hz45 with ⟨rfl, hq45⟩ | ⟨rfl, hq45⟩
        ·
          refine z_if_eq (tgt := 62) jx jb d_Mod_share_48 (by decide) ⟨by decide, by decide⟩ (fun hc48 => ?_) (fun hc48 => ?_)
          ·
            exact absurd hc48 (by decide)
          ·
            refine lv_iload_n jx jb d_Mod_share_51 rfl (lv_at jl 2 rfl) ?_
            refine z_if_eq (tgt := 62) jx jb d_Mod_share_52 (by decide) ⟨by omega, by omega⟩ (fun hc52 => ?_) (fun hc52 => ?_)
            ·
              refine lv_iconst (v := iZ 0) jx jb d_Mod_share_62 rfl ?_
              exact jret _ _ _ ((o : Int), xp, xs, xd, xk, xh) _ _ (Or.inr (Or.inl rfl)) (by first | exact Or.inr ⟨rfl, fun q => absurd q.1 (by have := q.2.1; omega), rfl, rfl, rfl⟩ | exact Or.inr ⟨rfl, fun q => absurd q.2.2.1 (by omega), rfl, rfl, rfl⟩ | exact Or.inr ⟨rfl, fun q => absurd q.2.2.2 (by omega), rfl, rfl, rfl⟩) (jP.sub [0, 1, 2, 3, 4, 5, 6] rfl) (jD.sub [0, 1, 2, 3, 4, 5, 6] (by decide) rfl) jS d_Mod_share_63
            ·
              have hp12 := p2_le (show x.toNat ≤ 12 by omega)
              have hp0 := p2_pos x.toNat
              refine lv_iload_n jx jb d_Mod_share_55 rfl (lv_at jl 3 rfl) ?_
              refine lv_iconst (v := iZ 1) jx jb d_Mod_share_56 rfl ?_
              refine lv_iload_n jx jb d_Mod_share_57 rfl (lv_at jl 1 rfl) ?_
              refine z_ishl jx jb d_Mod_share_58 x.toNat (2 ^ x.toNat) (rfl) (by omega) ?_
              refine z_top (2 ^ x.toNat) (Int.one_mul _) ?_
              refine z_icmp_le (tgt := 64) jx jb d_Mod_share_59 (by decide) ⟨⟨by omega, by omega⟩, ⟨by omega, by omega⟩⟩ (fun hc59 => ?_) (fun hc59 => ?_)
              ·
                have hso : sumOK xc (2 ^ x.toNat) (sm xc 256) := ⟨hp0, by omega, by omega, rfl, hcr⟩
                have hfm := fp_mis hso
                have hT9 := so_T hso
                have hcb : 0 ≤ cum (fpF xc (2 ^ x.toNat) (sm xc 256)) 256 ∧ cum (fpF xc (2 ^ x.toNat) (sm xc 256)) 256 ≤ 65536 * ((256 : Nat) : Int) := cum_hi (n := 256) (fun k hk => by have q := fp_b hso hk; omega)
                refine lv_iconst (v := iZ 0) jx jb d_Mod_share_64 rfl ?_
                refine lv_istore (lv' := [(4, .int (iZ 0)), (0, .ref r), (1, .int (iZ x)), (2, .int (iZ (sm xc 256))), (3, .int (iZ (usd xc 256)))]) jx jb d_Mod_share_65 jl (by decide) rfl (fun ls jl => ?_)
                have hloop67 : ∀ (nF : Nat) (j : Nat) (d2 : Nat → Int) (k2 : Nat → Int), 256 - j < nF → (j ≤ 256) → (∀ k, k < j → d2 k = (fpF xc (2 ^ x.toNat) (sm xc 256)) k) → (∀ k, k < j → k2 k = ctF xc (2 ^ x.toNat) (sm xc 256) k) → ∀ (H : Heap) (locs : List Loc), va_P D classes [(r, .inr (4, [.ref ri, .int (iZ iL), .int (iZ go), .ref ro, .int (iZ oL), .ref rc, .int (iZ (o : Int)), .ref rp, .ref rs, .ref rd, .ref rk, .ref rh, .int (iZ bP), .int (iZ bR)])), (rc, .inl (cI, 256, .inl (zA xc))), (rp, .inl (cI, 256, .inl (zA xp))), (rs, .inl (cI, 4096, .inl (zA xs))), (rd, .inl (cI, 256, .inl (zA d2))), (rk, .inl (cI, 256, .inl (zA k2))), (rh, .inl (cZ, 256, .inl (zA xh)))] H → va_D A [(r, .inr (4, [.ref ri, .int (iZ iL), .int (iZ go), .ref ro, .int (iZ oL), .ref rc, .int (iZ (o : Int)), .ref rp, .ref rs, .ref rd, .ref rk, .ref rh, .int (iZ bP), .int (iZ bR)])), (rc, .inl (cI, 256, .inl (zA xc))), (rp, .inl (cI, 256, .inl (zA xp))), (rs, .inl (cI, 4096, .inl (zA xs))), (rd, .inl (cI, 256, .inl (zA d2))), (rk, .inl (cI, 256, .inl (zA k2))), (rh, .inl (cZ, 256, .inl (zA xh)))] → va_S A s.heap H locs → ∀ ls : Array Slot, lv_has ls 6 [(0, .ref r), (1, .int (iZ x)), (2, .int (iZ (sm xc 256))), (4, .int (iZ (j : Int)))] → W p l e rm_M_share s m args below meth c H locs 0 0 Q (F0 m 67 ls []) := by
                  intro nF
                  induction nF with
                  | zero => intro j d2 k2 hm; exact absurd hm (Nat.not_lt_zero _)
                  | succ nF ih67 =>
                    intro j d2 k2 hm hj h1 h2 H locs jP jD jS ls jl
                    refine lv_iload jx jb d_Mod_share_67 (lv_at jl 3 rfl) ?_
                    refine lv_sipush (v := iZ 256) jx jb d_Mod_share_69 (by decide) ?_
                    refine z_icmp_ge (tgt := 138) jx jb d_Mod_share_72 (by decide) ⟨⟨by omega, by omega⟩, ⟨by decide, by decide⟩⟩ (fun hc72 => ?_) (fun hc72 => ?_)
                    ·
                      obtain rfl : 256 = j := by omega
                      have hdr2 : ∀ k, k < 256 → -1 ≤ d2 k ∧ d2 k ≤ 4096 := fun k hk => by rw [h1 k hk]; have q := fp_b hso hk; omega
                      have hnc : numR d2 256 = numR (fpF xc (2 ^ x.toNat) (sm xc 256)) 256 := num_cg (fun k hk => h1 k hk)
                      refine lv_aload_n jx jb d_Mod_share_138 rfl (lv_at jl 0 rfl) ?_
                      refine z_backe (va_runV (As := []) (rest := []) ⟨jx, jb, jml, jown, jts⟩ (c_M_drafted l D cI cB cZ r ri ro rc rp rs rd rk rh iL go oL o bP bR d2 (fun k hk => by have q := hdr2 k hk; omega)) (zc_V 0 jts cd_Mod_drafted lk_Mod_64 im_Mod_drafted se_Mod_drafted in_Mod hd_Mod_drafted ⟨Nat.le_of_ble_eq_true rfl, Nat.le_of_ble_eq_true rfl⟩ rfl rfl) (z_preVR jK jP [0, 4] rfl rfl rfl) rfl rfl jl.1 rfl (lv_room (Nat.le_of_ble_eq_true rfl)) d_Mod_share_139 ⟨Nat.le_of_ble_eq_true rfl, Nat.le_of_ble_eq_true rfl⟩) ?_
                      refine z_top (cum (fpF xc (2 ^ x.toNat) (sm xc 256)) 256) (cum_congr (fun k hk => h1 k hk)) ?_
                      refine lv_istore (lv' := [(4, .int (iZ (cum (fpF xc (2 ^ x.toNat) (sm xc 256)) 256))), (0, .ref r), (1, .int (iZ x)), (2, .int (iZ (sm xc 256)))]) jx jb d_Mod_share_142 jl (by decide) rfl (fun ls jl => ?_)
                      refine lv_aload_n jx jb d_Mod_share_144 rfl (lv_at jl 1 rfl) ?_
                      refine lv_iconst (v := iZ 1) jx jb d_Mod_share_145 rfl ?_
                      refine lv_iload_n jx jb d_Mod_share_146 rfl (lv_at jl 2 rfl) ?_
                      refine z_ishl jx jb d_Mod_share_147 x.toNat (2 ^ x.toNat) (rfl) (by omega) ?_
                      refine z_top (2 ^ x.toNat) (Int.one_mul _) ?_
                      refine lv_iload jx jb d_Mod_share_148 (lv_at jl 0 rfl) ?_
                      refine z_isub jx jb d_Mod_share_150 ?_
                      refine z_backv (wr := [(rc, .inl (cI, 256, .inl (zA xc))), (rp, .inl (cI, 256, .inl (zA xp))), (rs, .inl (cI, 4096, .inl (zA xs)))]) jP jD jS jA [0, 4, 5, 6] [1, 2, 3] rfl rfl (by decide) (by decide) (va_runV (As := [.int (iZ (2 ^ x.toNat - (cum (fpF xc (2 ^ x.toNat) (sm xc 256)) 256)))]) (rest := []) ⟨jx, jb, jml, jown, jts⟩ (c_M_giveOut l D cI cB cZ H.size r ri ro rc rp rs rd rk rh iL go oL o bP bR d2 k2 xh (2 ^ x.toNat - (cum (fpF xc (2 ^ x.toNat) (sm xc 256)) 256)) (hdr2) (fun k hk => by rw [h2 k hk]; exact ct_b hso) (by omega) (by omega)) (zc_V 1 jts cd_Mod_giveOut lk_Mod_67 im_Mod_giveOut se_Mod_giveOut in_Mod hd_Mod_giveOut ⟨Nat.le_of_ble_eq_true rfl, Nat.le_of_ble_eq_true rfl⟩ rfl rfl) (z_preV jK jP jD [0, 4, 5, 6] (by decide) rfl rfl rfl rfl) rfl rfl jl.1 rfl (lv_room (Nat.le_of_ble_eq_true rfl)) d_Mod_share_151 ⟨Nat.le_of_ble_eq_true rfl, Nat.le_of_ble_eq_true rfl⟩) (fun u151 H locs hu151 jP jD jS => ?_)
                      obtain ⟨xd1_151, xh1_151⟩ := u151
                      have jP : va_P D classes [(r, .inr (4, [.ref ri, .int (iZ iL), .int (iZ go), .ref ro, .int (iZ oL), .ref rc, .int (iZ (o : Int)), .ref rp, .ref rs, .ref rd, .ref rk, .ref rh, .int (iZ bP), .int (iZ bR)])), (rc, .inl (cI, 256, .inl (zA xc))), (rp, .inl (cI, 256, .inl (zA xp))), (rs, .inl (cI, 4096, .inl (zA xs))), (rd, .inl (cI, 256, .inl (zA xd1_151))), (rk, .inl (cI, 256, .inl (zA k2))), (rh, .inl (cZ, 256, .inl (zA xh1_151)))] H := jP.sub [3, 0, 1, 2, 4, 5, 6] rfl
                      have jD : va_D A [(r, .inr (4, [.ref ri, .int (iZ iL), .int (iZ go), .ref ro, .int (iZ oL), .ref rc, .int (iZ (o : Int)), .ref rp, .ref rs, .ref rd, .ref rk, .ref rh, .int (iZ bP), .int (iZ bR)])), (rc, .inl (cI, 256, .inl (zA xc))), (rp, .inl (cI, 256, .inl (zA xp))), (rs, .inl (cI, 4096, .inl (zA xs))), (rd, .inl (cI, 256, .inl (zA xd1_151))), (rk, .inl (cI, 256, .inl (zA k2))), (rh, .inl (cZ, 256, .inl (zA xh1_151)))] := jD.sub [3, 0, 1, 2, 4, 5, 6] (by decide) rfl
                      obtain ⟨hg1, hg2⟩ := hu151
                      have hg1 : ∀ k, k < 256 → xd1_151 k = gv d2 k2 (2 ^ x.toNat - cum (fpF xc (2 ^ x.toNat) (sm xc 256)) 256) k := hg1
                      have hg2 : cum xd1_151 256 = cum d2 256 + ((2 ^ x.toNat - cum (fpF xc (2 ^ x.toNat) (sm xc 256)) 256).toNat : Int) := hg2
                      refine lv_aload_n jx jb d_Mod_share_154 rfl (lv_at jl 1 rfl) ?_
                      refine lv_iload jx jb d_Mod_share_155 (lv_at jl 0 rfl) ?_
                      refine lv_iconst (v := iZ 1) jx jb d_Mod_share_157 rfl ?_
                      refine lv_iload_n jx jb d_Mod_share_158 rfl (lv_at jl 2 rfl) ?_
                      refine z_ishl jx jb d_Mod_share_159 x.toNat (2 ^ x.toNat) (rfl) (by omega) ?_
                      refine z_top (2 ^ x.toNat) (Int.one_mul _) ?_
                      refine z_isub jx jb d_Mod_share_160 ?_
                      refine z_backv (wr := [(rc, .inl (cI, 256, .inl (zA xc))), (rp, .inl (cI, 256, .inl (zA xp))), (rs, .inl (cI, 4096, .inl (zA xs))), (rk, .inl (cI, 256, .inl (zA k2))), (rh, .inl (cZ, 256, .inl (zA xh1_151)))]) jP jD jS jA [0, 4] [1, 2, 3, 5, 6] rfl rfl (by decide) (by decide) (va_runV (As := [.int (iZ ((cum (fpF xc (2 ^ x.toNat) (sm xc 256)) 256) - (2 ^ x.toNat)))]) (rest := []) ⟨jx, jb, jml, jown, jts⟩ (c_M_takeBack l D cI cB cZ H.size r ri ro rc rp rs rd rk rh iL go oL o bP bR xd1_151 ((cum (fpF xc (2 ^ x.toNat) (sm xc 256)) 256) - (2 ^ x.toNat)) (fun k hk => by rw [hg1 k hk]; exact gv_b (hdr2 k hk)) (by omega)) (zc_V 1 jts cd_Mod_takeBack lk_Mod_71 im_Mod_takeBack se_Mod_takeBack in_Mod hd_Mod_takeBack ⟨Nat.le_of_ble_eq_true rfl, Nat.le_of_ble_eq_true rfl⟩ rfl rfl) (z_preV jK jP jD [0, 4] (by decide) rfl rfl rfl rfl) rfl rfl jl.1 rfl (lv_room (Nat.le_of_ble_eq_true rfl)) d_Mod_share_161 ⟨Nat.le_of_ble_eq_true rfl, Nat.le_of_ble_eq_true rfl⟩) (fun u161 H locs hu161 jP jD jS => ?_)
                      obtain ⟨xd1_161, rfl⟩ : ∃ z, z = u161 := ⟨_, rfl⟩
                      have jP : va_P D classes [(r, .inr (4, [.ref ri, .int (iZ iL), .int (iZ go), .ref ro, .int (iZ oL), .ref rc, .int (iZ (o : Int)), .ref rp, .ref rs, .ref rd, .ref rk, .ref rh, .int (iZ bP), .int (iZ bR)])), (rc, .inl (cI, 256, .inl (zA xc))), (rp, .inl (cI, 256, .inl (zA xp))), (rs, .inl (cI, 4096, .inl (zA xs))), (rd, .inl (cI, 256, .inl (zA xd1_161))), (rk, .inl (cI, 256, .inl (zA k2))), (rh, .inl (cZ, 256, .inl (zA xh1_151)))] H := jP.sub [5, 0, 1, 2, 6, 3, 4] rfl
                      have jD : va_D A [(r, .inr (4, [.ref ri, .int (iZ iL), .int (iZ go), .ref ro, .int (iZ oL), .ref rc, .int (iZ (o : Int)), .ref rp, .ref rs, .ref rd, .ref rk, .ref rh, .int (iZ bP), .int (iZ bR)])), (rc, .inl (cI, 256, .inl (zA xc))), (rp, .inl (cI, 256, .inl (zA xp))), (rs, .inl (cI, 4096, .inl (zA xs))), (rd, .inl (cI, 256, .inl (zA xd1_161))), (rk, .inl (cI, 256, .inl (zA k2))), (rh, .inl (cZ, 256, .inl (zA xh1_151)))] := jD.sub [5, 0, 1, 2, 6, 3, 4] (by decide) rfl
                      have hsf := sh_fin hso hc59 rfl h1 (fun k hk _ => h2 k hk) hg1 hg2 hu161
                      refine lv_aload_n jx jb d_Mod_share_164 rfl (lv_at jl 1 rfl) ?_
                      refine lv_iload_n jx jb d_Mod_share_165 rfl (lv_at jl 2 rfl) ?_
                      refine z_top ((x.toNat : Nat) : Int) (by omega) ?_
                      refine z_backv (wr := [(rc, .inl (cI, 256, .inl (zA xc))), (rk, .inl (cI, 256, .inl (zA k2))), (rh, .inl (cZ, 256, .inl (zA xh1_151)))]) jP jD jS jA [0, 2, 3, 4] [1, 5, 6] rfl rfl (by decide) (by decide) (va_runV (As := [.int (iZ ((x.toNat : Nat) : Int))]) (rest := []) ⟨jx, jb, jml, jown, jts⟩ (c_M_settle l D cI cB cZ H.size r ri ro rc rp rs rd rk rh iL go oL bP bR (o : Int) (x.toNat : Nat) xp xs xd1_161 (by omega) (hsf.2.2) (hsf.2.1)) (zc_V 1 jts cd_Mod_settle lk_Mod_74 im_Mod_settle se_Mod_settle in_Mod hd_Mod_settle ⟨Nat.le_of_ble_eq_true rfl, Nat.le_of_ble_eq_true rfl⟩ rfl rfl) (z_preV jK jP jD [0, 2, 3, 4] (by decide) rfl rfl rfl rfl) rfl rfl jl.1 rfl (lv_room (Nat.le_of_ble_eq_true rfl)) d_Mod_share_166 ⟨Nat.le_of_ble_eq_true rfl, Nat.le_of_ble_eq_true rfl⟩) (fun u166 H locs hu166 jP jD jS => ?_)
                      obtain ⟨xp1_166, xs1_166⟩ := u166
                      have jP : va_P D classes [(r, .inr (4, [.ref ri, .int (iZ iL), .int (iZ go), .ref ro, .int (iZ oL), .ref rc, .int (iZ ((x.toNat : Nat) : Int)), .ref rp, .ref rs, .ref rd, .ref rk, .ref rh, .int (iZ bP), .int (iZ bR)])), (rc, .inl (cI, 256, .inl (zA xc))), (rp, .inl (cI, 256, .inl (zA xp1_166))), (rs, .inl (cI, 4096, .inl (zA xs1_166))), (rd, .inl (cI, 256, .inl (zA xd1_161))), (rk, .inl (cI, 256, .inl (zA k2))), (rh, .inl (cZ, 256, .inl (zA xh1_151)))] H := jP.sub [3, 0, 4, 5, 6, 1, 2] rfl
                      have jD : va_D A [(r, .inr (4, [.ref ri, .int (iZ iL), .int (iZ go), .ref ro, .int (iZ oL), .ref rc, .int (iZ ((x.toNat : Nat) : Int)), .ref rp, .ref rs, .ref rd, .ref rk, .ref rh, .int (iZ bP), .int (iZ bR)])), (rc, .inl (cI, 256, .inl (zA xc))), (rp, .inl (cI, 256, .inl (zA xp1_166))), (rs, .inl (cI, 4096, .inl (zA xs1_166))), (rd, .inl (cI, 256, .inl (zA xd1_161))), (rk, .inl (cI, 256, .inl (zA k2))), (rh, .inl (cZ, 256, .inl (zA xh1_151)))] := jD.sub [3, 0, 4, 5, 6, 1, 2] (by decide) rfl
                      obtain ⟨hu1, hu2⟩ := hu166
                      refine lv_iconst (v := iZ 1) jx jb d_Mod_share_169 rfl ?_
                      exact jret _ _ _ (((x.toNat : Nat) : Int), xp1_166, xs1_166, xd1_161, k2, xh1_151) _ _ (Or.inr (Or.inr rfl)) (Or.inl ⟨rfl, ⟨by omega, by omega, by omega, hc59⟩, by omega, fun k hk => (hu1 k hk).trans (hsf.1 k hk), (cum_congr (fun k hk => hu1 k hk)).trans hsf.2.1, fun k hk => by rw [hu1 k hk]; exact hsf.2.2 k hk, hu2⟩) (jP.sub [0, 1, 2, 3, 4, 5, 6] rfl) (jD.sub [0, 1, 2, 3, 4, 5, 6] (by decide) rfl) jS d_Mod_share_170
                    ·
                      have hcj := hcr j (by omega)
                      have hsc := sc_b hcj (show x.toNat ≤ 12 by omega)
                      refine lv_aload_n jx jb d_Mod_share_75 rfl (lv_at jl 0 rfl) ?_
                      refine va_get (D := D) (ci := 4) (v := .ref rc) (C := R_Mod) (T := F_Mod) (N := 14) jx jb jts i_Mod jown jK.1 jP 0 rfl rfl 5 (by decide) (jts _ fl_Mod_16) (fun _ h9 => h9) rfl d_Mod_share_76 ?_
                      refine lv_iload jx jb d_Mod_share_79 (lv_at jl 3 rfl) ?_
                      refine z_iald jx jb jK.1 jP 1 0 rfl rfl j (by omega) d_Mod_share_81 ?_
                      refine lv_iload_n jx jb d_Mod_share_82 rfl (lv_at jl 1 rfl) ?_
                      refine z_ishl jx jb d_Mod_share_83 x.toNat (2 ^ x.toNat) (rfl) (by omega) ?_
                      refine lv_istore (lv' := [(5, .int (iZ ((xc j) * (2 ^ x.toNat)))), (0, .ref r), (1, .int (iZ x)), (2, .int (iZ (sm xc 256))), (4, .int (iZ (j : Int)))]) jx jb d_Mod_share_84 jl (by decide) rfl (fun ls jl => ?_)
                      refine lv_aload_n jx jb d_Mod_share_86 rfl (lv_at jl 1 rfl) ?_
                      refine va_get (D := D) (ci := 4) (v := .ref rd) (C := R_Mod) (T := F_Mod) (N := 14) jx jb jts i_Mod jown jK.1 jP 0 rfl rfl 9 (by decide) (jts _ fl_Mod_25) (fun _ h9 => h9) rfl d_Mod_share_87 ?_
                      refine lv_iload jx jb d_Mod_share_90 (lv_at jl 4 rfl) ?_
                      refine lv_aload_n jx jb d_Mod_share_92 rfl (lv_at jl 1 rfl) ?_
                      refine va_get (D := D) (ci := 4) (v := .ref rc) (C := R_Mod) (T := F_Mod) (N := 14) jx jb jts i_Mod jown jK.1 jP 0 rfl rfl 5 (by decide) (jts _ fl_Mod_16) (fun _ h9 => h9) rfl d_Mod_share_93 ?_
                      refine lv_iload jx jb d_Mod_share_96 (lv_at jl 4 rfl) ?_
                      refine z_iald jx jb jK.1 jP 1 0 rfl rfl j (by omega) d_Mod_share_98 ?_
                      refine z_if_ne (tgt := 106) jx jb d_Mod_share_99 (by decide) ⟨by omega, by omega⟩ (fun hc99 => ?_) (fun hc99 => ?_)
                      ·
                        have hyp : 0 < xc j * 2 ^ x.toNat := Int.mul_pos (by omega) hp0
                        refine lv_iload jx jb d_Mod_share_106 (lv_at jl 0 rfl) ?_
                        refine lv_iload_n jx jb d_Mod_share_108 rfl (lv_at jl 3 rfl) ?_
                        refine z_icmp_ge (tgt := 116) jx jb d_Mod_share_109 (by decide) ⟨⟨by omega, by omega⟩, ⟨by omega, by omega⟩⟩ (fun hc109 => ?_) (fun hc109 => ?_)
                        ·
                          refine lv_iload jx jb d_Mod_share_116 (lv_at jl 0 rfl) ?_
                          refine lv_iload_n jx jb d_Mod_share_118 rfl (lv_at jl 3 rfl) ?_
                          refine z_idiv jx jb d_Mod_share_119 (by omega) ?_
                          refine z_iast jx jb jK.1 jP jD jS 4 0 rfl rfl j (by omega) d_Mod_share_120 (fun H locs jP jD jS => ?_)
                          have jP : va_P D classes [(r, .inr (4, [.ref ri, .int (iZ iL), .int (iZ go), .ref ro, .int (iZ oL), .ref rc, .int (iZ (o : Int)), .ref rp, .ref rs, .ref rd, .ref rk, .ref rh, .int (iZ bP), .int (iZ bR)])), (rc, .inl (cI, 256, .inl (zA xc))), (rp, .inl (cI, 256, .inl (zA xp))), (rs, .inl (cI, 4096, .inl (zA xs))), (rd, .inl (cI, 256, .inl (zA (zu d2 j (((xc j) * (2 ^ x.toNat)) / (sm xc 256)))))), (rk, .inl (cI, 256, .inl (zA k2))), (rh, .inl (cZ, 256, .inl (zA xh)))] H := jP
                          have jD : va_D A [(r, .inr (4, [.ref ri, .int (iZ iL), .int (iZ go), .ref ro, .int (iZ oL), .ref rc, .int (iZ (o : Int)), .ref rp, .ref rs, .ref rd, .ref rk, .ref rh, .int (iZ bP), .int (iZ bR)])), (rc, .inl (cI, 256, .inl (zA xc))), (rp, .inl (cI, 256, .inl (zA xp))), (rs, .inl (cI, 4096, .inl (zA xs))), (rd, .inl (cI, 256, .inl (zA (zu d2 j (((xc j) * (2 ^ x.toNat)) / (sm xc 256)))))), (rk, .inl (cI, 256, .inl (zA k2))), (rh, .inl (cZ, 256, .inl (zA xh)))] := jD
                          refine lv_aload_n jx jb d_Mod_share_121 rfl (lv_at jl 1 rfl) ?_
                          refine va_get (D := D) (ci := 4) (v := .ref rk) (C := R_Mod) (T := F_Mod) (N := 14) jx jb jts i_Mod jown jK.1 jP 0 rfl rfl 10 (by decide) (jts _ fl_Mod_28) (fun _ h9 => h9) rfl d_Mod_share_122 ?_
                          refine lv_iload jx jb d_Mod_share_125 (lv_at jl 4 rfl) ?_
                          refine lv_iload jx jb d_Mod_share_127 (lv_at jl 0 rfl) ?_
                          refine lv_iload_n jx jb d_Mod_share_129 rfl (lv_at jl 3 rfl) ?_
                          refine z_irem jx jb d_Mod_share_130 (by omega) ?_
                          refine z_iast jx jb jK.1 jP jD jS 5 0 rfl rfl j (by omega) d_Mod_share_131 (fun H locs jP jD jS => ?_)
                          have jP : va_P D classes [(r, .inr (4, [.ref ri, .int (iZ iL), .int (iZ go), .ref ro, .int (iZ oL), .ref rc, .int (iZ (o : Int)), .ref rp, .ref rs, .ref rd, .ref rk, .ref rh, .int (iZ bP), .int (iZ bR)])), (rc, .inl (cI, 256, .inl (zA xc))), (rp, .inl (cI, 256, .inl (zA xp))), (rs, .inl (cI, 4096, .inl (zA xs))), (rd, .inl (cI, 256, .inl (zA (zu d2 j (((xc j) * (2 ^ x.toNat)) / (sm xc 256)))))), (rk, .inl (cI, 256, .inl (zA (zu k2 j (((xc j) * (2 ^ x.toNat)) % (sm xc 256)))))), (rh, .inl (cZ, 256, .inl (zA xh)))] H := jP
                          have jD : va_D A [(r, .inr (4, [.ref ri, .int (iZ iL), .int (iZ go), .ref ro, .int (iZ oL), .ref rc, .int (iZ (o : Int)), .ref rp, .ref rs, .ref rd, .ref rk, .ref rh, .int (iZ bP), .int (iZ bR)])), (rc, .inl (cI, 256, .inl (zA xc))), (rp, .inl (cI, 256, .inl (zA xp))), (rs, .inl (cI, 4096, .inl (zA xs))), (rd, .inl (cI, 256, .inl (zA (zu d2 j (((xc j) * (2 ^ x.toNat)) / (sm xc 256)))))), (rk, .inl (cI, 256, .inl (zA (zu k2 j (((xc j) * (2 ^ x.toNat)) % (sm xc 256)))))), (rh, .inl (cZ, 256, .inl (zA xh)))] := jD
                          refine lv_iinc (v := iZ ((j : Int) + 1)) (lv' := [(4, .int (iZ ((j : Int) + 1))), (5, .int (iZ ((xc j) * (2 ^ x.toNat)))), (0, .ref r), (1, .int (iZ x)), (2, .int (iZ (sm xc 256)))]) jx jb d_Mod_share_132 jl (k := 4) rfl (iZ_add _ _) (by decide) rfl (fun ls jl => ?_)
                          refine lv_goto (tgt := 67) jx jb d_Mod_share_135 (by decide) ?_
                          exact ih67 (j + 1) (zu d2 j (((xc j) * (2 ^ x.toNat)) / (sm xc 256))) (zu k2 j (((xc j) * (2 ^ x.toNat)) % (sm xc 256))) (by omega) (by first | assumption | omega) (by first | exact zu_all h1 (fp_z (Int.le_of_eq (by rw [hc99, Int.zero_mul]))).symm | exact zu_all h1 (fp_m hyp hc109).symm | exact zu_all h1 (fp_q hyp hc109).symm) (zu_all h2 rfl) _ _ (jP.sub [0, 1, 2, 3, 4, 5, 6] rfl) (jD.sub [0, 1, 2, 3, 4, 5, 6] (by decide) rfl) jS _ (lv_sub jl [2, 3, 4, 0] rfl)
                        ·
                          refine lv_iconst (v := iZ (-1)) jx jb d_Mod_share_112 rfl ?_
                          refine lv_goto (tgt := 120) jx jb d_Mod_share_113 (by decide) ?_
                          refine z_iast jx jb jK.1 jP jD jS 4 0 rfl rfl j (by omega) d_Mod_share_120 (fun H locs jP jD jS => ?_)
                          have jP : va_P D classes [(r, .inr (4, [.ref ri, .int (iZ iL), .int (iZ go), .ref ro, .int (iZ oL), .ref rc, .int (iZ (o : Int)), .ref rp, .ref rs, .ref rd, .ref rk, .ref rh, .int (iZ bP), .int (iZ bR)])), (rc, .inl (cI, 256, .inl (zA xc))), (rp, .inl (cI, 256, .inl (zA xp))), (rs, .inl (cI, 4096, .inl (zA xs))), (rd, .inl (cI, 256, .inl (zA (zu d2 j (-1))))), (rk, .inl (cI, 256, .inl (zA k2))), (rh, .inl (cZ, 256, .inl (zA xh)))] H := jP
                          have jD : va_D A [(r, .inr (4, [.ref ri, .int (iZ iL), .int (iZ go), .ref ro, .int (iZ oL), .ref rc, .int (iZ (o : Int)), .ref rp, .ref rs, .ref rd, .ref rk, .ref rh, .int (iZ bP), .int (iZ bR)])), (rc, .inl (cI, 256, .inl (zA xc))), (rp, .inl (cI, 256, .inl (zA xp))), (rs, .inl (cI, 4096, .inl (zA xs))), (rd, .inl (cI, 256, .inl (zA (zu d2 j (-1))))), (rk, .inl (cI, 256, .inl (zA k2))), (rh, .inl (cZ, 256, .inl (zA xh)))] := jD
                          refine lv_aload_n jx jb d_Mod_share_121 rfl (lv_at jl 1 rfl) ?_
                          refine va_get (D := D) (ci := 4) (v := .ref rk) (C := R_Mod) (T := F_Mod) (N := 14) jx jb jts i_Mod jown jK.1 jP 0 rfl rfl 10 (by decide) (jts _ fl_Mod_28) (fun _ h9 => h9) rfl d_Mod_share_122 ?_
                          refine lv_iload jx jb d_Mod_share_125 (lv_at jl 4 rfl) ?_
                          refine lv_iload jx jb d_Mod_share_127 (lv_at jl 0 rfl) ?_
                          refine lv_iload_n jx jb d_Mod_share_129 rfl (lv_at jl 3 rfl) ?_
                          refine z_irem jx jb d_Mod_share_130 (by omega) ?_
                          refine z_iast jx jb jK.1 jP jD jS 5 0 rfl rfl j (by omega) d_Mod_share_131 (fun H locs jP jD jS => ?_)
                          have jP : va_P D classes [(r, .inr (4, [.ref ri, .int (iZ iL), .int (iZ go), .ref ro, .int (iZ oL), .ref rc, .int (iZ (o : Int)), .ref rp, .ref rs, .ref rd, .ref rk, .ref rh, .int (iZ bP), .int (iZ bR)])), (rc, .inl (cI, 256, .inl (zA xc))), (rp, .inl (cI, 256, .inl (zA xp))), (rs, .inl (cI, 4096, .inl (zA xs))), (rd, .inl (cI, 256, .inl (zA (zu d2 j (-1))))), (rk, .inl (cI, 256, .inl (zA (zu k2 j (((xc j) * (2 ^ x.toNat)) % (sm xc 256)))))), (rh, .inl (cZ, 256, .inl (zA xh)))] H := jP
                          have jD : va_D A [(r, .inr (4, [.ref ri, .int (iZ iL), .int (iZ go), .ref ro, .int (iZ oL), .ref rc, .int (iZ (o : Int)), .ref rp, .ref rs, .ref rd, .ref rk, .ref rh, .int (iZ bP), .int (iZ bR)])), (rc, .inl (cI, 256, .inl (zA xc))), (rp, .inl (cI, 256, .inl (zA xp))), (rs, .inl (cI, 4096, .inl (zA xs))), (rd, .inl (cI, 256, .inl (zA (zu d2 j (-1))))), (rk, .inl (cI, 256, .inl (zA (zu k2 j (((xc j) * (2 ^ x.toNat)) % (sm xc 256)))))), (rh, .inl (cZ, 256, .inl (zA xh)))] := jD
                          refine lv_iinc (v := iZ ((j : Int) + 1)) (lv' := [(4, .int (iZ ((j : Int) + 1))), (5, .int (iZ ((xc j) * (2 ^ x.toNat)))), (0, .ref r), (1, .int (iZ x)), (2, .int (iZ (sm xc 256)))]) jx jb d_Mod_share_132 jl (k := 4) rfl (iZ_add _ _) (by decide) rfl (fun ls jl => ?_)
                          refine lv_goto (tgt := 67) jx jb d_Mod_share_135 (by decide) ?_
                          exact ih67 (j + 1) (zu d2 j (-1)) (zu k2 j (((xc j) * (2 ^ x.toNat)) % (sm xc 256))) (by omega) (by first | assumption | omega) (by first | exact zu_all h1 (fp_z (Int.le_of_eq (by rw [hc99, Int.zero_mul]))).symm | exact zu_all h1 (fp_m hyp hc109).symm | exact zu_all h1 (fp_q hyp hc109).symm) (zu_all h2 rfl) _ _ (jP.sub [0, 1, 2, 3, 4, 5, 6] rfl) (jD.sub [0, 1, 2, 3, 4, 5, 6] (by decide) rfl) jS _ (lv_sub jl [2, 3, 4, 0] rfl)
                      ·
                        refine lv_iconst (v := iZ 0) jx jb d_Mod_share_102 rfl ?_
                        refine lv_goto (tgt := 120) jx jb d_Mod_share_103 (by decide) ?_
                        refine z_iast jx jb jK.1 jP jD jS 4 0 rfl rfl j (by omega) d_Mod_share_120 (fun H locs jP jD jS => ?_)
                        have jP : va_P D classes [(r, .inr (4, [.ref ri, .int (iZ iL), .int (iZ go), .ref ro, .int (iZ oL), .ref rc, .int (iZ (o : Int)), .ref rp, .ref rs, .ref rd, .ref rk, .ref rh, .int (iZ bP), .int (iZ bR)])), (rc, .inl (cI, 256, .inl (zA xc))), (rp, .inl (cI, 256, .inl (zA xp))), (rs, .inl (cI, 4096, .inl (zA xs))), (rd, .inl (cI, 256, .inl (zA (zu d2 j 0)))), (rk, .inl (cI, 256, .inl (zA k2))), (rh, .inl (cZ, 256, .inl (zA xh)))] H := jP
                        have jD : va_D A [(r, .inr (4, [.ref ri, .int (iZ iL), .int (iZ go), .ref ro, .int (iZ oL), .ref rc, .int (iZ (o : Int)), .ref rp, .ref rs, .ref rd, .ref rk, .ref rh, .int (iZ bP), .int (iZ bR)])), (rc, .inl (cI, 256, .inl (zA xc))), (rp, .inl (cI, 256, .inl (zA xp))), (rs, .inl (cI, 4096, .inl (zA xs))), (rd, .inl (cI, 256, .inl (zA (zu d2 j 0)))), (rk, .inl (cI, 256, .inl (zA k2))), (rh, .inl (cZ, 256, .inl (zA xh)))] := jD
                        refine lv_aload_n jx jb d_Mod_share_121 rfl (lv_at jl 1 rfl) ?_
                        refine va_get (D := D) (ci := 4) (v := .ref rk) (C := R_Mod) (T := F_Mod) (N := 14) jx jb jts i_Mod jown jK.1 jP 0 rfl rfl 10 (by decide) (jts _ fl_Mod_28) (fun _ h9 => h9) rfl d_Mod_share_122 ?_
                        refine lv_iload jx jb d_Mod_share_125 (lv_at jl 4 rfl) ?_
                        refine lv_iload jx jb d_Mod_share_127 (lv_at jl 0 rfl) ?_
                        refine lv_iload_n jx jb d_Mod_share_129 rfl (lv_at jl 3 rfl) ?_
                        refine z_irem jx jb d_Mod_share_130 (by omega) ?_
                        refine z_iast jx jb jK.1 jP jD jS 5 0 rfl rfl j (by omega) d_Mod_share_131 (fun H locs jP jD jS => ?_)
                        have jP : va_P D classes [(r, .inr (4, [.ref ri, .int (iZ iL), .int (iZ go), .ref ro, .int (iZ oL), .ref rc, .int (iZ (o : Int)), .ref rp, .ref rs, .ref rd, .ref rk, .ref rh, .int (iZ bP), .int (iZ bR)])), (rc, .inl (cI, 256, .inl (zA xc))), (rp, .inl (cI, 256, .inl (zA xp))), (rs, .inl (cI, 4096, .inl (zA xs))), (rd, .inl (cI, 256, .inl (zA (zu d2 j 0)))), (rk, .inl (cI, 256, .inl (zA (zu k2 j (((xc j) * (2 ^ x.toNat)) % (sm xc 256)))))), (rh, .inl (cZ, 256, .inl (zA xh)))] H := jP
                        have jD : va_D A [(r, .inr (4, [.ref ri, .int (iZ iL), .int (iZ go), .ref ro, .int (iZ oL), .ref rc, .int (iZ (o : Int)), .ref rp, .ref rs, .ref rd, .ref rk, .ref rh, .int (iZ bP), .int (iZ bR)])), (rc, .inl (cI, 256, .inl (zA xc))), (rp, .inl (cI, 256, .inl (zA xp))), (rs, .inl (cI, 4096, .inl (zA xs))), (rd, .inl (cI, 256, .inl (zA (zu d2 j 0)))), (rk, .inl (cI, 256, .inl (zA (zu k2 j (((xc j) * (2 ^ x.toNat)) % (sm xc 256)))))), (rh, .inl (cZ, 256, .inl (zA xh)))] := jD
                        refine lv_iinc (v := iZ ((j : Int) + 1)) (lv' := [(4, .int (iZ ((j : Int) + 1))), (5, .int (iZ ((xc j) * (2 ^ x.toNat)))), (0, .ref r), (1, .int (iZ x)), (2, .int (iZ (sm xc 256)))]) jx jb d_Mod_share_132 jl (k := 4) rfl (iZ_add _ _) (by decide) rfl (fun ls jl => ?_)
                        refine lv_goto (tgt := 67) jx jb d_Mod_share_135 (by decide) ?_
                        exact ih67 (j + 1) (zu d2 j 0) (zu k2 j (((xc j) * (2 ^ x.toNat)) % (sm xc 256))) (by omega) (by first | assumption | omega) (by first | exact zu_all h1 (fp_z (Int.le_of_eq (by rw [hc99, Int.zero_mul]))).symm | exact zu_all h1 (fp_m hyp hc109).symm | exact zu_all h1 (fp_q hyp hc109).symm) (zu_all h2 rfl) _ _ (jP.sub [0, 1, 2, 3, 4, 5, 6] rfl) (jD.sub [0, 1, 2, 3, 4, 5, 6] (by decide) rfl) jS _ (lv_sub jl [2, 3, 4, 0] rfl)
                exact hloop67 ((256 - 0) + 1) 0 xd xk (Nat.lt_succ_self _) (by first | assumption | omega) (fun k h => absurd h (by omega)) (fun k h => absurd h (by omega)) _ _ (jP.sub [0, 1, 2, 3, 4, 5, 6] rfl) (jD.sub [0, 1, 2, 3, 4, 5, 6] (by decide) rfl) jS _ (lv_sub jl [1, 2, 3, 0] rfl)
              ·
                refine lv_iconst (v := iZ 0) jx jb d_Mod_share_62 rfl ?_
                exact jret _ _ _ ((o : Int), xp, xs, xd, xk, xh) _ _ (Or.inr (Or.inl rfl)) (by first | exact Or.inr ⟨rfl, fun q => absurd q.1 (by have := q.2.1; omega), rfl, rfl, rfl⟩ | exact Or.inr ⟨rfl, fun q => absurd q.2.2.1 (by omega), rfl, rfl, rfl⟩ | exact Or.inr ⟨rfl, fun q => absurd q.2.2.2 (by omega), rfl, rfl, rfl⟩) (jP.sub [0, 1, 2, 3, 4, 5, 6] rfl) (jD.sub [0, 1, 2, 3, 4, 5, 6] (by decide) rfl) jS d_Mod_share_63
        ·
          refine z_if_eq (tgt := 62) jx jb d_Mod_share_48 (by decide) ⟨by decide, by decide⟩ (fun hc48 => ?_) (fun hc48 => ?_)
          ·
            refine lv_iconst (v := iZ 0) jx jb d_Mod_share_62 rfl ?_
            exact jret _ _ _ ((o : Int), xp, xs, xd, xk, xh) _ _ (Or.inr (Or.inl rfl)) (by first | exact Or.inr ⟨rfl, fun q => absurd q.1 (by have := q.2.1; omega), rfl, rfl, rfl⟩ | exact Or.inr ⟨rfl, fun q => absurd q.2.2.1 (by omega), rfl, rfl, rfl⟩ | exact Or.inr ⟨rfl, fun q => absurd q.2.2.2 (by omega), rfl, rfl, rfl⟩) (jP.sub [0, 1, 2, 3, 4, 5, 6] rfl) (jD.sub [0, 1, 2, 3, 4, 5, 6] (by decide) rfl) jS d_Mod_share_63
          ·
            exact absurd hc48 (by decide)
      ·
        have hci := hcr i (by omega)
        refine lv_iload_n jx jb d_Mod_share_15 rfl (lv_at jl 2 rfl) ?_
        refine lv_aload_n jx jb d_Mod_share_16 rfl (lv_at jl 0 rfl) ?_
        refine va_get (D := D) (ci := 4) (v := .ref rc) (C := R_Mod) (T := F_Mod) (N := 14) jx jb jts i_Mod jown jK.1 jP 0 rfl rfl 5 (by decide) (jts _ fl_Mod_16) (fun _ h9 => h9) rfl d_Mod_share_17 ?_
        refine lv_iload jx jb d_Mod_share_20 (lv_at jl 4 rfl) ?_
        refine z_iald jx jb jK.1 jP 1 0 rfl rfl i (by omega) d_Mod_share_22 ?_
        refine z_iadd jx jb d_Mod_share_23 ?_
        refine lv_istore_n (lv' := [(2, .int (iZ ((sm xc i) + (xc i)))), (0, .ref r), (1, .int (iZ x)), (3, .int (iZ (usd xc i))), (4, .int (iZ (i : Int)))]) jx jb d_Mod_share_24 rfl jl (by decide) rfl (fun ls jl => ?_)
        refine lv_aload_n jx jb d_Mod_share_25 rfl (lv_at jl 1 rfl) ?_
        refine va_get (D := D) (ci := 4) (v := .ref rc) (C := R_Mod) (T := F_Mod) (N := 14) jx jb jts i_Mod jown jK.1 jP 0 rfl rfl 5 (by decide) (jts _ fl_Mod_16) (fun _ h9 => h9) rfl d_Mod_share_26 ?_
        refine lv_iload jx jb d_Mod_share_29 (lv_at jl 4 rfl) ?_
        refine z_iald jx jb jK.1 jP 1 0 rfl rfl i (by omega) d_Mod_share_31 ?_
        refine z_if_le (tgt := 38) jx jb d_Mod_share_32 (by decide) ⟨by omega, by omega⟩ (fun hc32 => ?_) (fun hc32 => ?_)
        ·
          rw [usd_z hc32] at jl
          refine lv_iinc (v := iZ ((i : Int) + 1)) (lv' := [(4, .int (iZ ((i : Int) + 1))), (2, .int (iZ ((sm xc i) + (xc i)))), (0, .ref r), (1, .int (iZ x)), (3, .int (iZ (usd xc (i + 1))))]) jx jb d_Mod_share_38 jl (k := 4) rfl (iZ_add _ _) (by decide) rfl (fun ls jl => ?_)
          refine lv_goto (tgt := 7) jx jb d_Mod_share_41 (by decide) ?_
          exact ih7 (i + 1) (by omega) (by first | assumption | omega) _ _ (jP.sub [0, 1, 2, 3, 4, 5, 6] rfl) (jD.sub [0, 1, 2, 3, 4, 5, 6] (by decide) rfl) jS _ (lv_sub jl [2, 3, 1, 4, 0] rfl)
        ·
          refine lv_iinc (v := iZ (usd xc (i + 1))) (lv' := [(3, .int (iZ (usd xc (i + 1)))), (2, .int (iZ ((sm xc i) + (xc i)))), (0, .ref r), (1, .int (iZ x)), (4, .int (iZ (i : Int)))]) jx jb d_Mod_share_35 jl (k := 3) rfl (by rw [show (usd xc (i + 1)) = (usd xc i) + 1 from (usd_p hc32).symm]; exact iZ_add _ _) (by decide) rfl (fun ls jl => ?_)
          refine lv_iinc (v := iZ ((i : Int) + 1)) (lv' := [(4, .int (iZ ((i : Int) + 1))), (3, .int (iZ (usd xc (i + 1)))), (2, .int (iZ ((sm xc i) + (xc i)))), (0, .ref r), (1, .int (iZ x))]) jx jb d_Mod_share_38 jl (k := 4) rfl (iZ_add _ _) (by decide) rfl (fun ls jl => ?_)
          refine lv_goto (tgt := 7) jx jb d_Mod_share_41 (by decide) ?_
          exact ih7 (i + 1) (by omega) (by first | assumption | omega) _ _ (jP.sub [0, 1, 2, 3, 4, 5, 6] rfl) (jD.sub [0, 1, 2, 3, 4, 5, 6] (by decide) rfl) jS _ (lv_sub jl [3, 4, 2, 1, 0] rfl)
  exact hloop7 ((256 - 0) + 1) 0 (Nat.lt_succ_self _) (by first | assumption | omega) _ _ (jP.sub [0, 1, 2, 3, 4, 5, 6] rfl) (jD.sub [0, 1, 2, 3, 4, 5, 6] (by decide) rfl) jS _ (lv_sub jl [3, 4, 2, 1, 0] rfl)
