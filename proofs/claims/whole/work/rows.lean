section
-- ===== PART A: goes FIRST, ahead of the names: the tables' words, and 'selects' of the private methods out of them =====
/-- a private method of a class that the tables say can be made, by its rows of tables_1 -/
def lw_okq (q : MethodName × Nat) : Prop := (q.1.cls ≠ "java/lang/invoke/MethodHandle" ∧ q.1.cls ≠ "java/lang/invoke/VarHandle") ∧ Cond.instantiable q.1.cls q.2 ∈ tables_1 ∧ Cond.privateMethod q.1 ∈ tables_1 ∧ Cond.instanceMethod q.1 ∈ tables_1
theorem lw_p0 : lw_okq (⟨"StateCoder$CountsRule", "firstPoints", "(III)I"⟩, 3) := ⟨⟨by decide +kernel, by decide +kernel⟩, List.mem_of_getElem? (i := 82) (by decide +kernel), List.mem_of_getElem? (i := 193) (by decide +kernel), List.mem_of_getElem? (i := 194) (by decide +kernel)⟩
theorem lw_p1 : lw_okq (⟨"StateCoder$CountsRule", "rankByCut", "([I)V"⟩, 3) := ⟨⟨by decide +kernel, by decide +kernel⟩, List.mem_of_getElem? (i := 82) (by decide +kernel), List.mem_of_getElem? (i := 200) (by decide +kernel), List.mem_of_getElem? (i := 201) (by decide +kernel)⟩
theorem lw_p2 : lw_okq (⟨"StateCoder$CountsRule", "giveMissing", "([II)V"⟩, 3) := ⟨⟨by decide +kernel, by decide +kernel⟩, List.mem_of_getElem? (i := 82) (by decide +kernel), List.mem_of_getElem? (i := 204) (by decide +kernel), List.mem_of_getElem? (i := 205) (by decide +kernel)⟩
theorem lw_p3 : lw_okq (⟨"StateCoder$CountsRule", "takeExcess", "([II)V"⟩, 3) := ⟨⟨by decide +kernel, by decide +kernel⟩, List.mem_of_getElem? (i := 82) (by decide +kernel), List.mem_of_getElem? (i := 208) (by decide +kernel), List.mem_of_getElem? (i := 209) (by decide +kernel)⟩
theorem lw_p4 : lw_okq (⟨"StateCoder$Share", "spreadSingles", "()I"⟩, 8) := ⟨⟨by decide +kernel, by decide +kernel⟩, List.mem_of_getElem? (i := 51) (by decide +kernel), List.mem_of_getElem? (i := 216) (by decide +kernel), List.mem_of_getElem? (i := 217) (by decide +kernel)⟩
theorem lw_p5 : lw_okq (⟨"StateCoder$Share", "spreadOthers", "(I)V"⟩, 8) := ⟨⟨by decide +kernel, by decide +kernel⟩, List.mem_of_getElem? (i := 51) (by decide +kernel), List.mem_of_getElem? (i := 232) (by decide +kernel), List.mem_of_getElem? (i := 233) (by decide +kernel)⟩
theorem lw_p6 : lw_okq (⟨"StateCoder$Share", "startNumbers", "()V"⟩, 8) := ⟨⟨by decide +kernel, by decide +kernel⟩, List.mem_of_getElem? (i := 51) (by decide +kernel), List.mem_of_getElem? (i := 236) (by decide +kernel), List.mem_of_getElem? (i := 237) (by decide +kernel)⟩
theorem lw_p7 : lw_okq (⟨"StateCoder$Share", "numberCells", "()V"⟩, 8) := ⟨⟨by decide +kernel, by decide +kernel⟩, List.mem_of_getElem? (i := 51) (by decide +kernel), List.mem_of_getElem? (i := 250) (by decide +kernel), List.mem_of_getElem? (i := 251) (by decide +kernel)⟩
theorem lw_p8 : lw_okq (⟨"StateCoder$Share", "giveNumber", "(III)V"⟩, 8) := ⟨⟨by decide +kernel, by decide +kernel⟩, List.mem_of_getElem? (i := 51) (by decide +kernel), List.mem_of_getElem? (i := 254) (by decide +kernel), List.mem_of_getElem? (i := 255) (by decide +kernel)⟩
theorem lw_p9 : lw_okq (⟨"StateCoder$Share", "slotOf", "(II)I"⟩, 8) := ⟨⟨by decide +kernel, by decide +kernel⟩, List.mem_of_getElem? (i := 51) (by decide +kernel), List.mem_of_getElem? (i := 258) (by decide +kernel), List.mem_of_getElem? (i := 259) (by decide +kernel)⟩
theorem lw_p10 : lw_okq (⟨"StateCoder", "makeSpareOut", "()V"⟩, 8) := ⟨⟨by decide +kernel, by decide +kernel⟩, List.mem_of_getElem? (i := 13) (by decide +kernel), List.mem_of_getElem? (i := 418) (by decide +kernel), List.mem_of_getElem? (i := 419) (by decide +kernel)⟩
theorem lw_p11 : lw_okq (⟨"StateCoderModel", "drafted", "()I"⟩, 14) := ⟨⟨by decide +kernel, by decide +kernel⟩, List.mem_of_getElem? (i := 443) (by decide +kernel), List.mem_of_getElem? (i := 529) (by decide +kernel), List.mem_of_getElem? (i := 530) (by decide +kernel)⟩
theorem lw_p12 : lw_okq (⟨"StateCoderModel", "giveOut", "(I)V"⟩, 14) := ⟨⟨by decide +kernel, by decide +kernel⟩, List.mem_of_getElem? (i := 443) (by decide +kernel), List.mem_of_getElem? (i := 536) (by decide +kernel), List.mem_of_getElem? (i := 537) (by decide +kernel)⟩
theorem lw_p13 : lw_okq (⟨"StateCoderModel", "newRound", "()V"⟩, 14) := ⟨⟨by decide +kernel, by decide +kernel⟩, List.mem_of_getElem? (i := 443) (by decide +kernel), List.mem_of_getElem? (i := 540) (by decide +kernel), List.mem_of_getElem? (i := 541) (by decide +kernel)⟩
theorem lw_p14 : lw_okq (⟨"StateCoderModel", "nextToGet", "()I"⟩, 14) := ⟨⟨by decide +kernel, by decide +kernel⟩, List.mem_of_getElem? (i := 443) (by decide +kernel), List.mem_of_getElem? (i := 544) (by decide +kernel), List.mem_of_getElem? (i := 545) (by decide +kernel)⟩
theorem lw_p15 : lw_okq (⟨"StateCoderModel", "takeBack", "(I)V"⟩, 14) := ⟨⟨by decide +kernel, by decide +kernel⟩, List.mem_of_getElem? (i := 443) (by decide +kernel), List.mem_of_getElem? (i := 548) (by decide +kernel), List.mem_of_getElem? (i := 549) (by decide +kernel)⟩
def lw_privs_1 : List (MethodName × Nat) := [(⟨"StateCoder$CountsRule", "firstPoints", "(III)I"⟩, 3), (⟨"StateCoder$CountsRule", "rankByCut", "([I)V"⟩, 3), (⟨"StateCoder$CountsRule", "giveMissing", "([II)V"⟩, 3), (⟨"StateCoder$CountsRule", "takeExcess", "([II)V"⟩, 3), (⟨"StateCoder$Share", "spreadSingles", "()I"⟩, 8), (⟨"StateCoder$Share", "spreadOthers", "(I)V"⟩, 8), (⟨"StateCoder$Share", "startNumbers", "()V"⟩, 8), (⟨"StateCoder$Share", "numberCells", "()V"⟩, 8), (⟨"StateCoder$Share", "giveNumber", "(III)V"⟩, 8), (⟨"StateCoder$Share", "slotOf", "(II)I"⟩, 8), (⟨"StateCoder", "makeSpareOut", "()V"⟩, 8), (⟨"StateCoderModel", "drafted", "()I"⟩, 14), (⟨"StateCoderModel", "giveOut", "(I)V"⟩, 14), (⟨"StateCoderModel", "newRound", "()V"⟩, 14), (⟨"StateCoderModel", "nextToGet", "()I"⟩, 14), (⟨"StateCoderModel", "takeBack", "(I)V"⟩, 14)]
theorem lw_r1 : ∀ q ∈ lw_privs_1, lw_okq q := List.forall_mem_cons.mpr ⟨lw_p0, List.forall_mem_cons.mpr ⟨lw_p1, List.forall_mem_cons.mpr ⟨lw_p2, List.forall_mem_cons.mpr ⟨lw_p3, List.forall_mem_cons.mpr ⟨lw_p4, List.forall_mem_cons.mpr ⟨lw_p5, List.forall_mem_cons.mpr ⟨lw_p6, List.forall_mem_cons.mpr ⟨lw_p7, List.forall_mem_cons.mpr ⟨lw_p8, List.forall_mem_cons.mpr ⟨lw_p9, List.forall_mem_cons.mpr ⟨lw_p10, List.forall_mem_cons.mpr ⟨lw_p11, List.forall_mem_cons.mpr ⟨lw_p12, List.forall_mem_cons.mpr ⟨lw_p13, List.forall_mem_cons.mpr ⟨lw_p14, List.forall_mem_cons.mpr ⟨lw_p15, fun _ h => absurd h List.not_mem_nil⟩⟩⟩⟩⟩⟩⟩⟩⟩⟩⟩⟩⟩⟩⟩⟩
theorem lw_p16 : lw_okq (⟨"StateCoderModel", "settle", "(I)V"⟩, 14) := ⟨⟨by decide +kernel, by decide +kernel⟩, List.mem_of_getElem? (i := 443) (by decide +kernel), List.mem_of_getElem? (i := 552) (by decide +kernel), List.mem_of_getElem? (i := 553) (by decide +kernel)⟩
theorem lw_p17 : lw_okq (⟨"StateCoderModel", "beginOut", "()V"⟩, 14) := ⟨⟨by decide +kernel, by decide +kernel⟩, List.mem_of_getElem? (i := 443) (by decide +kernel), List.mem_of_getElem? (i := 564) (by decide +kernel), List.mem_of_getElem? (i := 565) (by decide +kernel)⟩
theorem lw_p18 : lw_okq (⟨"StateCoderModel", "put", "(II)V"⟩, 14) := ⟨⟨by decide +kernel, by decide +kernel⟩, List.mem_of_getElem? (i := 443) (by decide +kernel), List.mem_of_getElem? (i := 568) (by decide +kernel), List.mem_of_getElem? (i := 569) (by decide +kernel)⟩
theorem lw_p19 : lw_okq (⟨"StateCoderModel", "putNumber", "(II)V"⟩, 14) := ⟨⟨by decide +kernel, by decide +kernel⟩, List.mem_of_getElem? (i := 443) (by decide +kernel), List.mem_of_getElem? (i := 572) (by decide +kernel), List.mem_of_getElem? (i := 573) (by decide +kernel)⟩
theorem lw_p20 : lw_okq (⟨"StateCoderModel", "endOut", "()I"⟩, 14) := ⟨⟨by decide +kernel, by decide +kernel⟩, List.mem_of_getElem? (i := 443) (by decide +kernel), List.mem_of_getElem? (i := 579) (by decide +kernel), List.mem_of_getElem? (i := 580) (by decide +kernel)⟩
theorem lw_p21 : lw_okq (⟨"StateCoderModel", "take", "(I)I"⟩, 14) := ⟨⟨by decide +kernel, by decide +kernel⟩, List.mem_of_getElem? (i := 443) (by decide +kernel), List.mem_of_getElem? (i := 587) (by decide +kernel), List.mem_of_getElem? (i := 588) (by decide +kernel)⟩
theorem lw_p22 : lw_okq (⟨"StateCoderModel", "takeNumber", "(I)I"⟩, 14) := ⟨⟨by decide +kernel, by decide +kernel⟩, List.mem_of_getElem? (i := 443) (by decide +kernel), List.mem_of_getElem? (i := 591) (by decide +kernel), List.mem_of_getElem? (i := 592) (by decide +kernel)⟩
theorem lw_p23 : lw_okq (⟨"StateCoderModel", "takeZeros", "(II)I"⟩, 14) := ⟨⟨by decide +kernel, by decide +kernel⟩, List.mem_of_getElem? (i := 443) (by decide +kernel), List.mem_of_getElem? (i := 595) (by decide +kernel), List.mem_of_getElem? (i := 596) (by decide +kernel)⟩
theorem lw_p24 : lw_okq (⟨"StateCoderModel", "last", "()I"⟩, 14) := ⟨⟨by decide +kernel, by decide +kernel⟩, List.mem_of_getElem? (i := 443) (by decide +kernel), List.mem_of_getElem? (i := 603) (by decide +kernel), List.mem_of_getElem? (i := 604) (by decide +kernel)⟩
theorem lw_p25 : lw_okq (⟨"StateCoderModel", "numberOf", "(I)I"⟩, 14) := ⟨⟨by decide +kernel, by decide +kernel⟩, List.mem_of_getElem? (i := 443) (by decide +kernel), List.mem_of_getElem? (i := 615) (by decide +kernel), List.mem_of_getElem? (i := 616) (by decide +kernel)⟩
theorem lw_p26 : lw_okq (⟨"StateCoderModel", "bitsOf", "(I)I"⟩, 14) := ⟨⟨by decide +kernel, by decide +kernel⟩, List.mem_of_getElem? (i := 443) (by decide +kernel), List.mem_of_getElem? (i := 619) (by decide +kernel), List.mem_of_getElem? (i := 620) (by decide +kernel)⟩
theorem lw_p27 : lw_okq (⟨"StateCoderModel", "baseOf", "(I)I"⟩, 14) := ⟨⟨by decide +kernel, by decide +kernel⟩, List.mem_of_getElem? (i := 443) (by decide +kernel), List.mem_of_getElem? (i := 623) (by decide +kernel), List.mem_of_getElem? (i := 624) (by decide +kernel)⟩
theorem lw_p28 : lw_okq (⟨"StateCoderModel", "code", "(Z)I"⟩, 14) := ⟨⟨by decide +kernel, by decide +kernel⟩, List.mem_of_getElem? (i := 443) (by decide +kernel), List.mem_of_getElem? (i := 631) (by decide +kernel), List.mem_of_getElem? (i := 632) (by decide +kernel)⟩
theorem lw_p29 : lw_okq (⟨"StateCoderModel", "lowestCell", "(I)I"⟩, 14) := ⟨⟨by decide +kernel, by decide +kernel⟩, List.mem_of_getElem? (i := 443) (by decide +kernel), List.mem_of_getElem? (i := 635) (by decide +kernel), List.mem_of_getElem? (i := 636) (by decide +kernel)⟩
theorem lw_p30 : lw_okq (⟨"StateCoderModel", "numberFor", "(II)I"⟩, 14) := ⟨⟨by decide +kernel, by decide +kernel⟩, List.mem_of_getElem? (i := 443) (by decide +kernel), List.mem_of_getElem? (i := 639) (by decide +kernel), List.mem_of_getElem? (i := 640) (by decide +kernel)⟩
theorem lw_p31 : lw_okq (⟨"StateCoderModel", "cellOf", "(II)I"⟩, 14) := ⟨⟨by decide +kernel, by decide +kernel⟩, List.mem_of_getElem? (i := 443) (by decide +kernel), List.mem_of_getElem? (i := 643) (by decide +kernel), List.mem_of_getElem? (i := 644) (by decide +kernel)⟩
def lw_privs_2 : List (MethodName × Nat) := [(⟨"StateCoderModel", "settle", "(I)V"⟩, 14), (⟨"StateCoderModel", "beginOut", "()V"⟩, 14), (⟨"StateCoderModel", "put", "(II)V"⟩, 14), (⟨"StateCoderModel", "putNumber", "(II)V"⟩, 14), (⟨"StateCoderModel", "endOut", "()I"⟩, 14), (⟨"StateCoderModel", "take", "(I)I"⟩, 14), (⟨"StateCoderModel", "takeNumber", "(I)I"⟩, 14), (⟨"StateCoderModel", "takeZeros", "(II)I"⟩, 14), (⟨"StateCoderModel", "last", "()I"⟩, 14), (⟨"StateCoderModel", "numberOf", "(I)I"⟩, 14), (⟨"StateCoderModel", "bitsOf", "(I)I"⟩, 14), (⟨"StateCoderModel", "baseOf", "(I)I"⟩, 14), (⟨"StateCoderModel", "code", "(Z)I"⟩, 14), (⟨"StateCoderModel", "lowestCell", "(I)I"⟩, 14), (⟨"StateCoderModel", "numberFor", "(II)I"⟩, 14), (⟨"StateCoderModel", "cellOf", "(II)I"⟩, 14)]
theorem lw_r2 : ∀ q ∈ lw_privs_2, lw_okq q := List.forall_mem_cons.mpr ⟨lw_p16, List.forall_mem_cons.mpr ⟨lw_p17, List.forall_mem_cons.mpr ⟨lw_p18, List.forall_mem_cons.mpr ⟨lw_p19, List.forall_mem_cons.mpr ⟨lw_p20, List.forall_mem_cons.mpr ⟨lw_p21, List.forall_mem_cons.mpr ⟨lw_p22, List.forall_mem_cons.mpr ⟨lw_p23, List.forall_mem_cons.mpr ⟨lw_p24, List.forall_mem_cons.mpr ⟨lw_p25, List.forall_mem_cons.mpr ⟨lw_p26, List.forall_mem_cons.mpr ⟨lw_p27, List.forall_mem_cons.mpr ⟨lw_p28, List.forall_mem_cons.mpr ⟨lw_p29, List.forall_mem_cons.mpr ⟨lw_p30, List.forall_mem_cons.mpr ⟨lw_p31, fun _ h => absurd h List.not_mem_nil⟩⟩⟩⟩⟩⟩⟩⟩⟩⟩⟩⟩⟩⟩⟩⟩
theorem lw_p32 : lw_okq (⟨"StateCoderModel", "bitsAt", "(II)I"⟩, 14) := ⟨⟨by decide +kernel, by decide +kernel⟩, List.mem_of_getElem? (i := 443) (by decide +kernel), List.mem_of_getElem? (i := 652) (by decide +kernel), List.mem_of_getElem? (i := 653) (by decide +kernel)⟩
theorem lw_p33 : lw_okq (⟨"StateCoderModel", "follow", "(IIZ)I"⟩, 14) := ⟨⟨by decide +kernel, by decide +kernel⟩, List.mem_of_getElem? (i := 443) (by decide +kernel), List.mem_of_getElem? (i := 656) (by decide +kernel), List.mem_of_getElem? (i := 657) (by decide +kernel)⟩
def lw_privs_3 : List (MethodName × Nat) := [(⟨"StateCoderModel", "bitsAt", "(II)I"⟩, 14), (⟨"StateCoderModel", "follow", "(IIZ)I"⟩, 14)]
theorem lw_r3 : ∀ q ∈ lw_privs_3, lw_okq q := List.forall_mem_cons.mpr ⟨lw_p32, List.forall_mem_cons.mpr ⟨lw_p33, fun _ h => absurd h List.not_mem_nil⟩⟩
def lw_privs : List (MethodName × Nat) := lw_privs_1 ++ (lw_privs_2 ++ (lw_privs_3))
def lw_tbl : List Cond := k2_sels lw_privs ++ tables_1
theorem lw_privs_ok : ∀ q ∈ lw_privs, lw_okq q := by
  show ∀ q ∈ lw_privs_1 ++ (lw_privs_2 ++ (lw_privs_3)), lw_okq q
  exact List.forall_mem_append.mpr ⟨lw_r1, List.forall_mem_append.mpr ⟨lw_r2, lw_r3⟩⟩
end
section
def R_SC : String := "StateCoder"
def F_SC : u_T := fun k => match k with
  | 0 => ("StateCoder", "counts", "[I", true)
  | 1 => ("StateCoder", "plan", "[I", true)
  | 2 => ("StateCoder", "in", "LStateCoder$Row;", true)
  | 3 => ("StateCoder", "current", "LStateCoder$Share;", true)
  | 4 => ("StateCoder", "rule", "LStateCoder$CountsRule;", true)
  | 5 => ("StateCoder", "out", "LStateCoder$Row;", false)
  | 6 => ("StateCoder", "spare", "LStateCoder$Row;", false)
  | _ => ("StateCoder", "position", "I", false)
def t_SC : Nat → FieldType := fun k => match k with
  | 0 => .array .int
  | 1 => .array .int
  | 2 => .object "StateCoder$Row"
  | 3 => .object "StateCoder$Share"
  | 4 => .object "StateCoder$CountsRule"
  | 5 => .object "StateCoder$Row"
  | 6 => .object "StateCoder$Row"
  | _ => .int
theorem n_SC : ∀ a, a < 8 → ∀ b, b < 8 → a ≠ b → (F_SC a).2.1 ≠ (F_SC b).2.1 := by decide +kernel
theorem t_SC_ok : ∀ k, k < 8 → parseFieldDescriptor (F_SC k).2.2.1 = some (t_SC k) := by decide +kernel
def R_Mod : String := "StateCoderModel"
def F_Mod : u_T := fun k => match k with
  | 0 => ("StateCoderModel", "in", "[I", true)
  | 1 => ("StateCoderModel", "inLong", "I", false)
  | 2 => ("StateCoderModel", "goesOn", "I", false)
  | 3 => ("StateCoderModel", "out", "[I", true)
  | 4 => ("StateCoderModel", "outLong", "I", false)
  | 5 => ("StateCoderModel", "counts", "[I", true)
  | 6 => ("StateCoderModel", "order", "I", false)
  | 7 => ("StateCoderModel", "points", "[I", true)
  | 8 => ("StateCoderModel", "symbolOf", "[I", true)
  | 9 => ("StateCoderModel", "draft", "[I", true)
  | 10 => ("StateCoderModel", "cutOff", "[I", true)
  | 11 => ("StateCoderModel", "had", "[Z", true)
  | 12 => ("StateCoderModel", "bitsPut", "I", false)
  | _ => ("StateCoderModel", "bitsRead", "I", false)
def t_Mod : Nat → FieldType := fun k => match k with
  | 0 => .array .int
  | 1 => .int
  | 2 => .int
  | 3 => .array .int
  | 4 => .int
  | 5 => .array .int
  | 6 => .int
  | 7 => .array .int
  | 8 => .array .int
  | 9 => .array .int
  | 10 => .array .int
  | 11 => .array .boolean
  | 12 => .int
  | _ => .int
theorem n_Mod : ∀ a, a < 14 → ∀ b, b < 14 → a ≠ b → (F_Mod a).2.1 ≠ (F_Mod b).2.1 := by decide +kernel
theorem t_Mod_ok : ∀ k, k < 14 → parseFieldDescriptor (F_Mod k).2.2.1 = some (t_Mod k) := by decide +kernel
def R_CountsRule : String := "StateCoder$CountsRule"
def F_CountsRule : u_T := fun k => match k with
  | 0 => ("StateCoder$CountsRule", "cut", "[I", true)
  | 1 => ("StateCoder$CountsRule", "ranked", "[I", true)
  | _ => ("StateCoder$CountsRule", "rankedLength", "I", false)
def t_CountsRule : Nat → FieldType := fun k => match k with
  | 0 => .array .int
  | 1 => .array .int
  | _ => .int
theorem n_CountsRule : ∀ a, a < 3 → ∀ b, b < 3 → a ≠ b → (F_CountsRule a).2.1 ≠ (F_CountsRule b).2.1 := by decide +kernel
theorem t_CountsRule_ok : ∀ k, k < 3 → parseFieldDescriptor (F_CountsRule k).2.2.1 = some (t_CountsRule k) := by decide +kernel
def R_NumberForm : String := "StateCoder$NumberForm"
def R_Row : String := "StateCoder$Row"
def F_Row : u_T := fun k => match k with
  | 0 => ("StateCoder$Row", "bytes", "[B", true)
  | 1 => ("StateCoder$Row", "length", "I", false)
  | 2 => ("StateCoder$Row", "held", "I", false)
  | 3 => ("StateCoder$Row", "heldBits", "I", false)
  | 4 => ("StateCoder$Row", "overfull", "Z", false)
  | 5 => ("StateCoder$Row", "takeStart", "I", false)
  | _ => ("StateCoder$Row", "takenBits", "I", false)
def t_Row : Nat → FieldType := fun k => match k with
  | 0 => .array .byte
  | 1 => .int
  | 2 => .int
  | 3 => .int
  | 4 => .boolean
  | 5 => .int
  | _ => .int
theorem n_Row : ∀ a, a < 7 → ∀ b, b < 7 → a ≠ b → (F_Row a).2.1 ≠ (F_Row b).2.1 := by decide +kernel
theorem t_Row_ok : ∀ k, k < 7 → parseFieldDescriptor (F_Row k).2.2.1 = some (t_Row k) := by decide +kernel
def R_RowCoder : String := "StateCoder$RowCoder"
def R_Share : String := "StateCoder$Share"
def F_Share : u_T := fun k => match k with
  | 0 => ("StateCoder$Share", "points", "[I", true)
  | 1 => ("StateCoder$Share", "symbols", "[I", true)
  | 2 => ("StateCoder$Share", "bits", "[I", true)
  | 3 => ("StateCoder$Share", "bases", "[I", true)
  | 4 => ("StateCoder$Share", "cellsBySymbol", "[I", true)
  | 5 => ("StateCoder$Share", "firstOfSymbol", "[I", true)
  | 6 => ("StateCoder$Share", "nextNumber", "[I", true)
  | _ => ("StateCoder$Share", "order", "I", false)
def t_Share : Nat → FieldType := fun k => match k with
  | 0 => .array .int
  | 1 => .array .int
  | 2 => .array .int
  | 3 => .array .int
  | 4 => .array .int
  | 5 => .array .int
  | 6 => .array .int
  | _ => .int
theorem n_Share : ∀ a, a < 8 → ∀ b, b < 8 → a ≠ b → (F_Share a).2.1 ≠ (F_Share b).2.1 := by decide +kernel
theorem t_Share_ok : ∀ k, k < 8 → parseFieldDescriptor (F_Share k).2.2.1 = some (t_Share k) := by decide +kernel
def R_ShareReader : String := "StateCoder$ShareReader"
def R_ShareWriter : String := "StateCoder$ShareWriter"
def R_Arrays : String := "java/util/Arrays"
abbrev b_SC_init : ByteArray := prog_1_method_1_code
def y_SC_init : MethodName := ⟨R_SC, "<init>", "()V"⟩
abbrev b_SC_write : ByteArray := prog_1_method_2_code
def y_SC_write : MethodName := ⟨R_SC, "write", "(JI)Z"⟩
abbrev b_SC_turn : ByteArray := prog_1_method_3_code
def y_SC_turn : MethodName := ⟨R_SC, "turn", "()V"⟩
abbrev b_SC_clear : ByteArray := prog_1_method_4_code
def y_SC_clear : MethodName := ⟨R_SC, "clear", "()V"⟩
abbrev b_SC_place : ByteArray := prog_1_method_5_code
def y_SC_place : MethodName := ⟨R_SC, "place", "(I)Z"⟩
abbrev b_SC_at : ByteArray := prog_1_method_6_code
def y_SC_at : MethodName := ⟨R_SC, "at", "()I"⟩
abbrev b_SC_count : ByteArray := prog_1_method_7_code
def y_SC_count : MethodName := ⟨R_SC, "count", "(II)Z"⟩
abbrev b_SC_countAll : ByteArray := prog_1_method_8_code
def y_SC_countAll : MethodName := ⟨R_SC, "countAll", "()I"⟩
abbrev b_SC_share : ByteArray := prog_1_method_9_code
def y_SC_share : MethodName := ⟨R_SC, "share", "(I)Z"⟩
abbrev b_SC_just : ByteArray := prog_1_method_10_code
def y_SC_just : MethodName := ⟨R_SC, "just", "(I)Z"⟩
abbrev b_SC_describe : ByteArray := prog_1_method_11_code
def y_SC_describe : MethodName := ⟨R_SC, "describe", "()I"⟩
abbrev b_SC_read : ByteArray := prog_1_method_12_code
def y_SC_read : MethodName := ⟨R_SC, "read", "(II)I"⟩
abbrev b_SC_about : ByteArray := prog_1_method_13_code
def y_SC_about : MethodName := ⟨R_SC, "about", "(I)I"⟩
abbrev b_SC_points : ByteArray := prog_1_method_14_code
def y_SC_points : MethodName := ⟨R_SC, "points", "(I)I"⟩
abbrev b_SC_cell : ByteArray := prog_1_method_15_code
def y_SC_cell : MethodName := ⟨R_SC, "cell", "(II)I"⟩
abbrev b_SC_encode : ByteArray := prog_1_method_16_code
def y_SC_encode : MethodName := ⟨R_SC, "encode", "()I"⟩
abbrev b_SC_decode : ByteArray := prog_1_method_17_code
def y_SC_decode : MethodName := ⟨R_SC, "decode", "(I)I"⟩
abbrev b_SC_size : ByteArray := prog_1_method_18_code
def y_SC_size : MethodName := ⟨R_SC, "size", "()I"⟩
abbrev b_SC_byteAt : ByteArray := prog_1_method_19_code
def y_SC_byteAt : MethodName := ⟨R_SC, "byteAt", "(I)I"⟩
abbrev b_SC_makeSpareOut : ByteArray := prog_1_method_20_code
def y_SC_makeSpareOut : MethodName := ⟨R_SC, "makeSpareOut", "()V"⟩
abbrev b_SC_isSymbol : ByteArray := prog_1_method_21_code
def y_SC_isSymbol : MethodName := ⟨R_SC, "isSymbol", "(I)Z"⟩
abbrev b_SC_isOrder : ByteArray := prog_1_method_22_code
def y_SC_isOrder : MethodName := ⟨R_SC, "isOrder", "(I)Z"⟩
abbrev b_SC_weight : ByteArray := prog_1_method_23_code
def y_SC_weight : MethodName := ⟨R_SC, "weight", "(I)I"⟩
abbrev b_SC_exponent : ByteArray := prog_1_method_24_code
def y_SC_exponent : MethodName := ⟨R_SC, "exponent", "(I)I"⟩
abbrev b_Mod_init : ByteArray := prog_10_method_1_code
def y_Mod_init : MethodName := ⟨R_Mod, "<init>", "()V"⟩
abbrev b_Mod_write : ByteArray := prog_10_method_2_code
def y_Mod_write : MethodName := ⟨R_Mod, "write", "(JI)Z"⟩
abbrev b_Mod_turn : ByteArray := prog_10_method_3_code
def y_Mod_turn : MethodName := ⟨R_Mod, "turn", "()V"⟩
abbrev b_Mod_clear : ByteArray := prog_10_method_4_code
def y_Mod_clear : MethodName := ⟨R_Mod, "clear", "()V"⟩
abbrev b_Mod_place : ByteArray := prog_10_method_5_code
def y_Mod_place : MethodName := ⟨R_Mod, "place", "(I)Z"⟩
abbrev b_Mod_at : ByteArray := prog_10_method_6_code
def y_Mod_at : MethodName := ⟨R_Mod, "at", "()I"⟩
abbrev b_Mod_count : ByteArray := prog_10_method_7_code
def y_Mod_count : MethodName := ⟨R_Mod, "count", "(II)Z"⟩
abbrev b_Mod_countAll : ByteArray := prog_10_method_8_code
def y_Mod_countAll : MethodName := ⟨R_Mod, "countAll", "()I"⟩
abbrev b_Mod_weight : ByteArray := prog_10_method_9_code
def y_Mod_weight : MethodName := ⟨R_Mod, "weight", "(I)I"⟩
abbrev b_Mod_drafted : ByteArray := prog_10_method_10_code
def y_Mod_drafted : MethodName := ⟨R_Mod, "drafted", "()I"⟩
abbrev b_Mod_isOrder : ByteArray := prog_10_method_11_code
def y_Mod_isOrder : MethodName := ⟨R_Mod, "isOrder", "(I)Z"⟩
abbrev b_Mod_settle : ByteArray := prog_10_method_12_code
def y_Mod_settle : MethodName := ⟨R_Mod, "settle", "(I)V"⟩
abbrev b_Mod_nextToGet : ByteArray := prog_10_method_13_code
def y_Mod_nextToGet : MethodName := ⟨R_Mod, "nextToGet", "()I"⟩
abbrev b_Mod_newRound : ByteArray := prog_10_method_14_code
def y_Mod_newRound : MethodName := ⟨R_Mod, "newRound", "()V"⟩
abbrev b_Mod_giveOut : ByteArray := prog_10_method_15_code
def y_Mod_giveOut : MethodName := ⟨R_Mod, "giveOut", "(I)V"⟩
abbrev b_Mod_takeBack : ByteArray := prog_10_method_16_code
def y_Mod_takeBack : MethodName := ⟨R_Mod, "takeBack", "(I)V"⟩
abbrev b_Mod_share : ByteArray := prog_10_method_17_code
def y_Mod_share : MethodName := ⟨R_Mod, "share", "(I)Z"⟩
abbrev b_Mod_just : ByteArray := prog_10_method_18_code
def y_Mod_just : MethodName := ⟨R_Mod, "just", "(I)Z"⟩
abbrev b_Mod_last : ByteArray := prog_10_method_19_code
def y_Mod_last : MethodName := ⟨R_Mod, "last", "()I"⟩
abbrev b_Mod_beginOut : ByteArray := prog_10_method_20_code
def y_Mod_beginOut : MethodName := ⟨R_Mod, "beginOut", "()V"⟩
abbrev b_Mod_put : ByteArray := prog_10_method_21_code
def y_Mod_put : MethodName := ⟨R_Mod, "put", "(II)V"⟩
abbrev b_Mod_endOut : ByteArray := prog_10_method_22_code
def y_Mod_endOut : MethodName := ⟨R_Mod, "endOut", "()I"⟩
abbrev b_Mod_bitsFor : ByteArray := prog_10_method_23_code
def y_Mod_bitsFor : MethodName := ⟨R_Mod, "bitsFor", "(I)I"⟩
abbrev b_Mod_putNumber : ByteArray := prog_10_method_24_code
def y_Mod_putNumber : MethodName := ⟨R_Mod, "putNumber", "(II)V"⟩
abbrev b_Mod_describe : ByteArray := prog_10_method_25_code
def y_Mod_describe : MethodName := ⟨R_Mod, "describe", "()I"⟩
abbrev b_Mod_take : ByteArray := prog_10_method_26_code
def y_Mod_take : MethodName := ⟨R_Mod, "take", "(I)I"⟩
abbrev b_Mod_takeNumber : ByteArray := prog_10_method_27_code
def y_Mod_takeNumber : MethodName := ⟨R_Mod, "takeNumber", "(I)I"⟩
abbrev b_Mod_takeZeros : ByteArray := prog_10_method_28_code
def y_Mod_takeZeros : MethodName := ⟨R_Mod, "takeZeros", "(II)I"⟩
abbrev b_Mod_read : ByteArray := prog_10_method_29_code
def y_Mod_read : MethodName := ⟨R_Mod, "read", "(II)I"⟩
abbrev b_Mod_about : ByteArray := prog_10_method_30_code
def y_Mod_about : MethodName := ⟨R_Mod, "about", "(I)I"⟩
abbrev b_Mod_points : ByteArray := prog_10_method_31_code
def y_Mod_points : MethodName := ⟨R_Mod, "points", "(I)I"⟩
abbrev b_Mod_numberOf : ByteArray := prog_10_method_32_code
def y_Mod_numberOf : MethodName := ⟨R_Mod, "numberOf", "(I)I"⟩
abbrev b_Mod_bitsOf : ByteArray := prog_10_method_33_code
def y_Mod_bitsOf : MethodName := ⟨R_Mod, "bitsOf", "(I)I"⟩
abbrev b_Mod_baseOf : ByteArray := prog_10_method_34_code
def y_Mod_baseOf : MethodName := ⟨R_Mod, "baseOf", "(I)I"⟩
abbrev b_Mod_cell : ByteArray := prog_10_method_35_code
def y_Mod_cell : MethodName := ⟨R_Mod, "cell", "(II)I"⟩
abbrev b_Mod_lowestCell : ByteArray := prog_10_method_36_code
def y_Mod_lowestCell : MethodName := ⟨R_Mod, "lowestCell", "(I)I"⟩
abbrev b_Mod_numberFor : ByteArray := prog_10_method_37_code
def y_Mod_numberFor : MethodName := ⟨R_Mod, "numberFor", "(II)I"⟩
abbrev b_Mod_cellOf : ByteArray := prog_10_method_38_code
def y_Mod_cellOf : MethodName := ⟨R_Mod, "cellOf", "(II)I"⟩
abbrev b_Mod_code : ByteArray := prog_10_method_39_code
def y_Mod_code : MethodName := ⟨R_Mod, "code", "(Z)I"⟩
abbrev b_Mod_encode : ByteArray := prog_10_method_40_code
def y_Mod_encode : MethodName := ⟨R_Mod, "encode", "()I"⟩
abbrev b_Mod_bitsAt : ByteArray := prog_10_method_41_code
def y_Mod_bitsAt : MethodName := ⟨R_Mod, "bitsAt", "(II)I"⟩
abbrev b_Mod_follow : ByteArray := prog_10_method_42_code
def y_Mod_follow : MethodName := ⟨R_Mod, "follow", "(IIZ)I"⟩
abbrev b_Mod_decode : ByteArray := prog_10_method_43_code
def y_Mod_decode : MethodName := ⟨R_Mod, "decode", "(I)I"⟩
abbrev b_Mod_size : ByteArray := prog_10_method_44_code
def y_Mod_size : MethodName := ⟨R_Mod, "size", "()I"⟩
abbrev b_Mod_byteAt : ByteArray := prog_10_method_45_code
def y_Mod_byteAt : MethodName := ⟨R_Mod, "byteAt", "(I)I"⟩
abbrev b_CountsRule_init : ByteArray := prog_2_method_1_code
def y_CountsRule_init : MethodName := ⟨R_CountsRule, "<init>", "()V"⟩
abbrev b_CountsRule_makePoints : ByteArray := prog_2_method_2_code
def y_CountsRule_makePoints : MethodName := ⟨R_CountsRule, "makePoints", "([II[I)Z"⟩
abbrev b_CountsRule_firstPoints : ByteArray := prog_2_method_3_code
def y_CountsRule_firstPoints : MethodName := ⟨R_CountsRule, "firstPoints", "(III)I"⟩
abbrev b_CountsRule_rankByCut : ByteArray := prog_2_method_4_code
def y_CountsRule_rankByCut : MethodName := ⟨R_CountsRule, "rankByCut", "([I)V"⟩
abbrev b_CountsRule_giveMissing : ByteArray := prog_2_method_5_code
def y_CountsRule_giveMissing : MethodName := ⟨R_CountsRule, "giveMissing", "([II)V"⟩
abbrev b_CountsRule_takeExcess : ByteArray := prog_2_method_6_code
def y_CountsRule_takeExcess : MethodName := ⟨R_CountsRule, "takeExcess", "([II)V"⟩
abbrev b_NumberForm_shortBits : ByteArray := prog_3_method_2_code
def y_NumberForm_shortBits : MethodName := ⟨R_NumberForm, "shortBits", "(I)I"⟩
abbrev b_NumberForm_firstShifted : ByteArray := prog_3_method_3_code
def y_NumberForm_firstShifted : MethodName := ⟨R_NumberForm, "firstShifted", "(I)I"⟩
abbrev b_NumberForm_firstLong : ByteArray := prog_3_method_4_code
def y_NumberForm_firstLong : MethodName := ⟨R_NumberForm, "firstLong", "(I)I"⟩
abbrev b_Row_init : ByteArray := prog_4_method_1_code
def y_Row_init : MethodName := ⟨R_Row, "<init>", "()V"⟩
abbrev b_Row_length : ByteArray := prog_4_method_2_code
def y_Row_length : MethodName := ⟨R_Row, "length", "()I"⟩
abbrev b_Row_empty : ByteArray := prog_4_method_3_code
def y_Row_empty : MethodName := ⟨R_Row, "empty", "()V"⟩
abbrev b_Row_add : ByteArray := prog_4_method_4_code
def y_Row_add : MethodName := ⟨R_Row, "add", "(I)V"⟩
abbrev b_Row_isOverfull : ByteArray := prog_4_method_5_code
def y_Row_isOverfull : MethodName := ⟨R_Row, "isOverfull", "()Z"⟩
abbrev b_Row_byteOrZero : ByteArray := prog_4_method_6_code
def y_Row_byteOrZero : MethodName := ⟨R_Row, "byteOrZero", "(I)I"⟩
abbrev b_Row_copyFrom : ByteArray := prog_4_method_7_code
def y_Row_copyFrom : MethodName := ⟨R_Row, "copyFrom", "(LStateCoder$Row;)V"⟩
abbrev b_Row_putBits : ByteArray := prog_4_method_8_code
def y_Row_putBits : MethodName := ⟨R_Row, "putBits", "(II)V"⟩
abbrev b_Row_closeBits : ByteArray := prog_4_method_9_code
def y_Row_closeBits : MethodName := ⟨R_Row, "closeBits", "()V"⟩
abbrev b_Row_number : ByteArray := prog_4_method_10_code
def y_Row_number : MethodName := ⟨R_Row, "number", "(III)I"⟩
abbrev b_Row_startTaking : ByteArray := prog_4_method_11_code
def y_Row_startTaking : MethodName := ⟨R_Row, "startTaking", "(I)V"⟩
abbrev b_Row_hasBits : ByteArray := prog_4_method_12_code
def y_Row_hasBits : MethodName := ⟨R_Row, "hasBits", "(I)Z"⟩
abbrev b_Row_nextBits : ByteArray := prog_4_method_13_code
def y_Row_nextBits : MethodName := ⟨R_Row, "nextBits", "(I)I"⟩
abbrev b_Row_takeBits : ByteArray := prog_4_method_14_code
def y_Row_takeBits : MethodName := ⟨R_Row, "takeBits", "(I)I"⟩
abbrev b_Row_bytesTaken : ByteArray := prog_4_method_15_code
def y_Row_bytesTaken : MethodName := ⟨R_Row, "bytesTaken", "()I"⟩
abbrev b_RowCoder_allHaveWeight : ByteArray := prog_5_method_2_code
def y_RowCoder_allHaveWeight : MethodName := ⟨R_RowCoder, "allHaveWeight", "(LStateCoder$Row;ILStateCoder$Share;)Z"⟩
abbrev b_RowCoder_putRow : ByteArray := prog_5_method_3_code
def y_RowCoder_putRow : MethodName := ⟨R_RowCoder, "putRow", "(LStateCoder$Row;ILStateCoder$Share;LStateCoder$Row;)Z"⟩
abbrev b_RowCoder_putStep : ByteArray := prog_5_method_4_code
def y_RowCoder_putStep : MethodName := ⟨R_RowCoder, "putStep", "(IILStateCoder$Share;LStateCoder$Row;)I"⟩
abbrev b_RowCoder_takeRow : ByteArray := prog_5_method_5_code
def y_RowCoder_takeRow : MethodName := ⟨R_RowCoder, "takeRow", "(LStateCoder$Row;IILStateCoder$Share;LStateCoder$Row;)I"⟩
abbrev b_Share_init : ByteArray := prog_6_method_1_code
def y_Share_init : MethodName := ⟨R_Share, "<init>", "()V"⟩
abbrev b_Share_exists : ByteArray := prog_6_method_2_code
def y_Share_exists : MethodName := ⟨R_Share, "exists", "()Z"⟩
abbrev b_Share_order : ByteArray := prog_6_method_3_code
def y_Share_order : MethodName := ⟨R_Share, "order", "()I"⟩
abbrev b_Share_cells : ByteArray := prog_6_method_4_code
def y_Share_cells : MethodName := ⟨R_Share, "cells", "()I"⟩
abbrev b_Share_hasCell : ByteArray := prog_6_method_5_code
def y_Share_hasCell : MethodName := ⟨R_Share, "hasCell", "(I)Z"⟩
abbrev b_Share_pointsOf : ByteArray := prog_6_method_6_code
def y_Share_pointsOf : MethodName := ⟨R_Share, "pointsOf", "(I)I"⟩
abbrev b_Share_weightOf : ByteArray := prog_6_method_7_code
def y_Share_weightOf : MethodName := ⟨R_Share, "weightOf", "(I)I"⟩
abbrev b_Share_lastSymbol : ByteArray := prog_6_method_8_code
def y_Share_lastSymbol : MethodName := ⟨R_Share, "lastSymbol", "()I"⟩
abbrev b_Share_symbolOf : ByteArray := prog_6_method_9_code
def y_Share_symbolOf : MethodName := ⟨R_Share, "symbolOf", "(I)I"⟩
abbrev b_Share_bitsOf : ByteArray := prog_6_method_10_code
def y_Share_bitsOf : MethodName := ⟨R_Share, "bitsOf", "(I)I"⟩
abbrev b_Share_baseOf : ByteArray := prog_6_method_11_code
def y_Share_baseOf : MethodName := ⟨R_Share, "baseOf", "(I)I"⟩
abbrev b_Share_cellOf : ByteArray := prog_6_method_12_code
def y_Share_cellOf : MethodName := ⟨R_Share, "cellOf", "(II)I"⟩
abbrev b_Share_become : ByteArray := prog_6_method_13_code
def y_Share_become : MethodName := ⟨R_Share, "become", "(I[I)V"⟩
abbrev b_Share_slotOf : ByteArray := prog_6_method_14_code
def y_Share_slotOf : MethodName := ⟨R_Share, "slotOf", "(II)I"⟩
abbrev b_Share_spreadSingles : ByteArray := prog_6_method_15_code
def y_Share_spreadSingles : MethodName := ⟨R_Share, "spreadSingles", "()I"⟩
abbrev b_Share_spreadOthers : ByteArray := prog_6_method_16_code
def y_Share_spreadOthers : MethodName := ⟨R_Share, "spreadOthers", "(I)V"⟩
abbrev b_Share_startNumbers : ByteArray := prog_6_method_17_code
def y_Share_startNumbers : MethodName := ⟨R_Share, "startNumbers", "()V"⟩
abbrev b_Share_numberCells : ByteArray := prog_6_method_18_code
def y_Share_numberCells : MethodName := ⟨R_Share, "numberCells", "()V"⟩
abbrev b_Share_giveNumber : ByteArray := prog_6_method_19_code
def y_Share_giveNumber : MethodName := ⟨R_Share, "giveNumber", "(III)V"⟩
abbrev b_ShareReader_takeShare : ByteArray := prog_7_method_2_code
def y_ShareReader_takeShare : MethodName := ⟨R_ShareReader, "takeShare", "(LStateCoder$Row;II[I)I"⟩
abbrev b_ShareReader_takeNumber : ByteArray := prog_7_method_3_code
def y_ShareReader_takeNumber : MethodName := ⟨R_ShareReader, "takeNumber", "(LStateCoder$Row;I)I"⟩
abbrev b_ShareReader_behindZeros : ByteArray := prog_7_method_4_code
def y_ShareReader_behindZeros : MethodName := ⟨R_ShareReader, "behindZeros", "(LStateCoder$Row;II)I"⟩
abbrev b_ShareWriter_putShare : ByteArray := prog_8_method_2_code
def y_ShareWriter_putShare : MethodName := ⟨R_ShareWriter, "putShare", "(LStateCoder$Share;LStateCoder$Row;)V"⟩
abbrev b_ShareWriter_putNumber : ByteArray := prog_8_method_3_code
def y_ShareWriter_putNumber : MethodName := ⟨R_ShareWriter, "putNumber", "(IILStateCoder$Row;)V"⟩
abbrev b_ShareWriter_putZeros : ByteArray := prog_8_method_4_code
def y_ShareWriter_putZeros : MethodName := ⟨R_ShareWriter, "putZeros", "(LStateCoder$Share;ILStateCoder$Row;)I"⟩
abbrev b_Arrays_fill : ByteArray := prog_12_method_103_code
def y_Arrays_fill : MethodName := ⟨R_Arrays, "fill", "([II)V"⟩
abbrev classes : List vw_C := [(R_Row, F_Row, 7), (R_Share, F_Share, 8), (R_CountsRule, F_CountsRule, 3), (R_SC, F_SC, 8), (R_Mod, F_Mod, 14)]
abbrev TY (cI cB cZ : ClassId) : List (ClassId × FieldType) := [(cI, .int), (cB, .byte), (cZ, .boolean)]
end
section
/-! ints as whole numbers: iZ z is the int of a number z; every value of a walk is kept as iZ of a term -/
def iZ (z : Int) : Int32 := Int32.ofInt z
theorem iZ_add (a b : Int) : iZ a + iZ b = iZ (a + b) := (Int32.ofInt_add a b).symm
theorem iZ_sub (a b : Int) : iZ a - iZ b = iZ (a - b) := (Int32.ofInt_sub a b).symm
theorem iZ_mul (a b : Int) : iZ a * iZ b = iZ (a * b) := (Int32.ofInt_mul a b).symm
theorem iZ_toInt {a : Int} (h1 : -2147483648 ≤ a) (h2 : a < 2147483648) : (iZ a).toInt = a := Int32.toInt_ofInt_of_le (by omega) (by omega)
theorem iZ_of (x : Int32) : x = iZ x.toInt := (Int32.ofInt_toInt x).symm
theorem iZ_lo (x : Int32) : -2147483648 ≤ x.toInt := by
  have := Int32.le_toInt x
  omega
theorem iZ_hi (x : Int32) : x.toInt < 2147483648 := by
  have := Int32.toInt_lt x
  omega
theorem iZ_nI (n : Nat) : nI n = iZ n := Int32.ofInt_eq_ofNat.symm
/-- in the range of an int -/
abbrev zr (a : Int) : Prop := -2147483648 ≤ a ∧ a < 2147483648
theorem iZ_le {a b : Int} (ha : zr a) (hb : zr b) : iZ a ≤ iZ b ↔ a ≤ b := by
  rw [Int32.le_iff_toInt_le, iZ_toInt ha.1 ha.2, iZ_toInt hb.1 hb.2]
theorem iZ_lt {a b : Int} (ha : zr a) (hb : zr b) : iZ a < iZ b ↔ a < b := by
  rw [Int32.lt_iff_toInt_lt, iZ_toInt ha.1 ha.2, iZ_toInt hb.1 hb.2]
theorem iZ_eq {a b : Int} (ha : zr a) (hb : zr b) : iZ a = iZ b ↔ a = b := by
  rw [← Int32.toInt_inj, iZ_toInt ha.1 ha.2, iZ_toInt hb.1 hb.2]
theorem zr_0 : zr 0 := ⟨by decide, by decide⟩
theorem iZ_0 : (0 : Int32) = iZ 0 := rfl
theorem iZ_cl {a : Int} (h0 : 0 ≤ a) (h : a < 2147483648) : (iZ a).toNatClampNeg = a.toNat := by
  show (iZ a).toInt.toNat = _
  rw [iZ_toInt (by omega) h]
theorem iZ_in {a : Int} {n : Nat} (h0 : 0 ≤ a) (h1 : a < n) (hn : (n : Int) ≤ 2147483648) : vp_in (iZ a) n := vp_in_iff.mpr (by
  rw [iZ_toInt (by omega) (by omega)]
  exact ⟨h0, h1⟩)
theorem iZ_bits (a : Int) : (iZ a).toBitVec.toNat = (a % 4294967296).toNat := by
  show (BitVec.ofInt 32 a).toNat = _
  rw [BitVec.toNat_ofInt]
  rfl
theorem iZ_ext {x y : Int32} (h : x.toBitVec.toNat = y.toBitVec.toNat) : x = y := Int32.toBitVec.inj (BitVec.eq_of_toNat_eq h)
theorem iZ_sh : ∀ n : Fin 32, ((iZ (n : Nat) &&& 31).toBitVec.smod 32).toNat = (n : Nat) := by decide +kernel
theorem iZ_p2 : ∀ n : Fin 32, (iZ ((2 : Int) ^ (n : Nat))).toBitVec.toNat = 2 ^ (n : Nat) := by decide +kernel
theorem iZ_mk : ∀ n : Fin 32, (iZ ((2 : Int) ^ (n : Nat) - 1)).toBitVec.toNat = 2 ^ (n : Nat) - 1 := by decide +kernel
theorem iZ_shl (a : Int) {n : Nat} (hn : n < 32) : iZ a <<< (iZ n &&& 31) = iZ (a * 2 ^ n) := by
  rw [← iZ_mul]
  apply iZ_ext
  rw [pk_shl (iZ a) (iZ n &&& 31) n (iZ_sh ⟨n, hn⟩)]
  rw [Int32.toBitVec_mul, BitVec.toNat_mul, iZ_p2 ⟨n, hn⟩]
theorem iZ_shr {a : Int} (h0 : 0 ≤ a) (h : a < 2147483648) {n : Nat} (hn : n < 32) : iZ a >>> (iZ n &&& 31) = iZ (a / 2 ^ n) := by
  apply Int32.toInt_inj.mp
  rw [pk_shr (iZ a) (iZ n &&& 31) n (iZ_sh ⟨n, hn⟩), iZ_toInt (by omega) h, Int.shiftRight_eq_div_pow]
  have h1 : 0 ≤ a / ((2 ^ n : Nat) : Int) := Int.ediv_nonneg h0 (Int.natCast_nonneg _)
  have h2 : a / ((2 ^ n : Nat) : Int) ≤ a := Int.ediv_le_self _ h0
  have e : ((2 ^ n : Nat) : Int) = (2 : Int) ^ n := by simp
  rw [← e, iZ_toInt (by omega) (by omega)]
theorem iZ_and (a : Int) {n : Nat} (hn : n < 32) : iZ a &&& iZ (2 ^ n - 1) = iZ (a % 2 ^ n) := by
  rw [pk_and (iZ a) n (iZ_mk ⟨n, hn⟩), iZ_nI, iZ_bits]
  congr 1
  have hd : ((2 : Int) ^ n) ∣ 4294967296 := by
    have : (4294967296 : Int) = 2 ^ n * 2 ^ (32 - n) := by
      rw [← Int.pow_add, show n + (32 - n) = 32 by omega]
      rfl
    exact ⟨_, this⟩
  have h0 : 0 ≤ a % 4294967296 := Int.emod_nonneg _ (by decide)
  rw [Int.natCast_emod, Int.toNat_of_nonneg h0]
  have e : ((2 ^ n : Nat) : Int) = (2 : Int) ^ n := by simp
  rw [e, Int.emod_emod_of_dvd _ hd]
theorem iZ_or {a b : Int} {n : Nat} (ha0 : 0 ≤ a) (ha : a < 2 ^ n) (hb0 : 0 ≤ b) (hs : a + b * 2 ^ n < 4294967296) : iZ a ||| iZ (b * 2 ^ n) = iZ (a + b * 2 ^ n) := by
  have hp : (0 : Int) ≤ b * 2 ^ n := Int.mul_nonneg hb0 (Int.le_of_lt (Int.pow_pos (by decide)))
  have hq : b * 2 ^ n < 4294967296 := by omega
  apply iZ_ext
  rw [Int32.toBitVec_or, BitVec.toNat_or, iZ_bits, iZ_bits, iZ_bits, Int.emod_eq_of_lt ha0 (by omega), Int.emod_eq_of_lt hp hq, Int.emod_eq_of_lt (by omega) hs]
  obtain ⟨x, rfl⟩ := Int.eq_ofNat_of_zero_le ha0
  obtain ⟨y, rfl⟩ := Int.eq_ofNat_of_zero_le hb0
  have e : ((2 ^ n : Nat) : Int) = (2 : Int) ^ n := by simp
  rw [← e] at ha ⊢
  have hx : x < 2 ^ n := by omega
  have e2 : ((y : Int) * ((2 ^ n : Nat) : Int)).toNat = y * 2 ^ n := by rw [← Int.natCast_mul]; rfl
  have e3 : ((x : Int) + (y : Int) * ((2 ^ n : Nat) : Int)).toNat = x + y * 2 ^ n := by rw [← Int.natCast_mul, ← Int.natCast_add]; rfl
  rw [e2, e3, Int.toNat_natCast, Nat.mul_comm y, Nat.add_comm, Nat.two_pow_add_eq_or_of_lt hx, Nat.or_comm]
theorem iZ_div {a d : Int} (ha : 0 ≤ a) (ha2 : a < 2147483648) (hd : 0 < d) (hd2 : d < 2147483648) : iZ a / iZ d = iZ (a / d) := by
  obtain ⟨x, rfl⟩ := Int.eq_ofNat_of_zero_le ha
  obtain ⟨y, rfl⟩ := Int.eq_ofNat_of_zero_le (Int.le_of_lt hd)
  rw [← iZ_nI, ← iZ_nI, pk_div (by omega) (by omega) (by omega), iZ_nI, Int.natCast_ediv]
theorem iZ_rem {a d : Int} (ha : 0 ≤ a) (ha2 : a < 2147483648) (hd : 0 < d) (hd2 : d < 2147483648) : iZ a - iZ a / iZ d * iZ d = iZ (a % d) := by
  rw [iZ_div ha ha2 hd hd2, iZ_mul, iZ_sub]
  congr 1
  have := Int.emod_add_mul_ediv a d
  have e := Int.mul_comm d (a / d)
  omega
theorem iZ_i2b (a : Int) : (iZ a).toInt8.toInt32 = iZ (a.bmod 256) := by
  show (Int32.ofInt a).toInt8.toInt32 = _
  rw [Int32.toInt8_ofInt, ← Int32.ofInt_int8ToInt, Int8.toInt_ofInt]
  rfl
theorem iZ_bmod (a : Int) : a.bmod 256 % 256 = a % 256 := Int.bmod_emod
theorem iZ_narB (a : Int) : vp_nar .byte (iZ a) = iZ (a.bmod 256) := by rw [vp_nar_byte, iZ_i2b]
theorem bm_lo (a : Int) : -128 ≤ a.bmod 256 := by have := Int.le_bmod (x := a) (m := 256) (by decide); omega
theorem bm_hi (a : Int) : a.bmod 256 < 128 := by have := Int.bmod_lt (x := a) (m := 256) (by decide); omega
theorem bm_bm (a : Int) : (a.bmod 256).bmod 256 = a.bmod 256 := Int.bmod_bmod
/-- arrays: their contents as numbers -/
def zA (g : Nat → Int) : Nat → Int32 := fun k => iZ (g k)
def zu (g : Nat → Int) (k : Nat) (x : Int) : Nat → Int := fun j => if j = k then x else g j
theorem zu_s {g : Nat → Int} {k : Nat} {x : Int} : zu g k x k = x := if_pos rfl
theorem zu_n {g : Nat → Int} {k j : Nat} {x : Int} (h : j ≠ k) : zu g k x j = g j := if_neg h
theorem zA_u (g : Nat → Int) (k : Nat) (x : Int) : upd (zA g) k (iZ x) = zA (zu g k x) := by
  funext j
  show (if j = k then iZ x else iZ (g j)) = iZ (if j = k then x else g j)
  split <;> rfl
/-! the instructions' rows, over iZ -/
section ZROWS
variable {p : Program} {l : Launch} {e : Env} {R : Room} {s : State} {m : MethodId} {args : Array Value} {below : List Frame} {meth : Method} {c : Code} {H : Heap} {locs : List Loc} {cells slots : Nat} {Q : State → Prop}
variable {cc : ByteArray} {pc : Nat} {ls : Array Slot} {rest : List Value} {a b : Int}
theorem z_iadd (hx : p.tables.exec = Jvm.exec) (hb : c.code = cc) (hdg : decode cc pc = .ok (.iadd, 1)) (k : W p l e R s m args below meth c H locs cells slots Q (F0 m (pc + 1) ls (.int (iZ (a + b)) :: rest))) : W p l e R s m args below meth c H locs cells slots Q (F0 m (pc) ls (.int (iZ b) :: .int (iZ a) :: rest)) := lv_iadd hx hb hdg (by rw [iZ_add]; exact k)
theorem z_isub (hx : p.tables.exec = Jvm.exec) (hb : c.code = cc) (hdg : decode cc pc = .ok (.isub, 1)) (k : W p l e R s m args below meth c H locs cells slots Q (F0 m (pc + 1) ls (.int (iZ (a - b)) :: rest))) : W p l e R s m args below meth c H locs cells slots Q (F0 m (pc) ls (.int (iZ b) :: .int (iZ a) :: rest)) := lv_isub hx hb hdg (by rw [iZ_sub]; exact k)
theorem z_imul (hx : p.tables.exec = Jvm.exec) (hb : c.code = cc) (hdg : decode cc pc = .ok (.imul, 1)) (k : W p l e R s m args below meth c H locs cells slots Q (F0 m (pc + 1) ls (.int (iZ (a * b)) :: rest))) : W p l e R s m args below meth c H locs cells slots Q (F0 m (pc) ls (.int (iZ b) :: .int (iZ a) :: rest)) := lv_imul hx hb hdg (by rw [iZ_mul]; exact k)
theorem z_idiv (hx : p.tables.exec = Jvm.exec) (hb : c.code = cc) (hdg : decode cc pc = .ok (.idiv, 1)) (h : 0 ≤ a ∧ a < 2147483648 ∧ 0 < b ∧ b < 2147483648) (k : W p l e R s m args below meth c H locs cells slots Q (F0 m (pc + 1) ls (.int (iZ (a / b)) :: rest))) : W p l e R s m args below meth c H locs cells slots Q (F0 m (pc) ls (.int (iZ b) :: .int (iZ a) :: rest)) := lv_idiv hx hb hdg (fun q => absurd ((iZ_eq ⟨by omega, h.2.2.2⟩ zr_0).mp q) (by omega)) (by rw [iZ_div h.1 h.2.1 h.2.2.1 h.2.2.2]; exact k)
theorem z_irem (hx : p.tables.exec = Jvm.exec) (hb : c.code = cc) (hdg : decode cc pc = .ok (.irem, 1)) (h : 0 ≤ a ∧ a < 2147483648 ∧ 0 < b ∧ b < 2147483648) (k : W p l e R s m args below meth c H locs cells slots Q (F0 m (pc + 1) ls (.int (iZ (a % b)) :: rest))) : W p l e R s m args below meth c H locs cells slots Q (F0 m (pc) ls (.int (iZ b) :: .int (iZ a) :: rest)) := lv_irem hx hb hdg (fun q => absurd ((iZ_eq ⟨by omega, h.2.2.2⟩ zr_0).mp q) (by omega)) (by rw [iZ_rem h.1 h.2.1 h.2.2.1 h.2.2.2]; exact k)
theorem z_ishl (hx : p.tables.exec = Jvm.exec) (hb : c.code = cc) (hdg : decode cc pc = .ok (.ishl, 1)) (n : Nat) (P : Int) (hP : (2 : Int) ^ n = P) (h : b = n ∧ n < 32) (k : W p l e R s m args below meth c H locs cells slots Q (F0 m (pc + 1) ls (.int (iZ (a * P)) :: rest))) : W p l e R s m args below meth c H locs cells slots Q (F0 m (pc) ls (.int (iZ b) :: .int (iZ a) :: rest)) := lv_ishl hx hb hdg (by rw [h.1, iZ_shl a h.2, hP]; exact k)
theorem z_ishr (hx : p.tables.exec = Jvm.exec) (hb : c.code = cc) (hdg : decode cc pc = .ok (.ishr, 1)) (n : Nat) (P : Int) (hP : (2 : Int) ^ n = P) (h : b = n ∧ n < 32 ∧ 0 ≤ a ∧ a < 2147483648) (k : W p l e R s m args below meth c H locs cells slots Q (F0 m (pc + 1) ls (.int (iZ (a / P)) :: rest))) : W p l e R s m args below meth c H locs cells slots Q (F0 m (pc) ls (.int (iZ b) :: .int (iZ a) :: rest)) := lv_ishr hx hb hdg (by rw [h.1, iZ_shr h.2.2.1 h.2.2.2 h.2.1, hP]; exact k)
theorem z_iand (hx : p.tables.exec = Jvm.exec) (hb : c.code = cc) (hdg : decode cc pc = .ok (.iand, 1)) (n : Nat) (P : Int) (hP : (2 : Int) ^ n = P) (h : b = P - 1) (hn : n < 32) (k : W p l e R s m args below meth c H locs cells slots Q (F0 m (pc + 1) ls (.int (iZ (a % P)) :: rest))) : W p l e R s m args below meth c H locs cells slots Q (F0 m (pc) ls (.int (iZ b) :: .int (iZ a) :: rest)) := lv_iand hx hb hdg (by rw [h, ← hP, iZ_and a hn, hP]; exact k)
theorem z_ior (hx : p.tables.exec = Jvm.exec) (hb : c.code = cc) (hdg : decode cc pc = .ok (.ior, 1)) (n : Nat) (P : Int) (hP : (2 : Int) ^ n = P) (y : Int) (h : b = y * P) (h1 : 0 ≤ a ∧ a < P ∧ 0 ≤ y ∧ a + y * P < 4294967296) (k : W p l e R s m args below meth c H locs cells slots Q (F0 m (pc + 1) ls (.int (iZ (a + y * P)) :: rest))) : W p l e R s m args below meth c H locs cells slots Q (F0 m (pc) ls (.int (iZ b) :: .int (iZ a) :: rest)) := lv_ior hx hb hdg (by subst hP; rw [h, iZ_or h1.1 h1.2.1 h1.2.2.1 h1.2.2.2]; exact k)
theorem z_i2b (hx : p.tables.exec = Jvm.exec) (hb : c.code = cc) (hdg : decode cc pc = .ok (.i2b, 1)) (k : W p l e R s m args below meth c H locs cells slots Q (F0 m (pc + 1) ls (.int (iZ (a.bmod 256)) :: rest))) : W p l e R s m args below meth c H locs cells slots Q (F0 m (pc) ls (.int (iZ a) :: rest)) := lv_i2b hx hb hdg (iZ_i2b a) k
/-- the number on top in another form -/
theorem z_top (a' : Int) (h : a = a') (k : W p l e R s m args below meth c H locs cells slots Q (F0 m (pc) ls (.int (iZ a') :: rest))) : W p l e R s m args below meth c H locs cells slots Q (F0 m (pc) ls (.int (iZ a) :: rest)) := h ▸ k
theorem z_icmp_lt (hx : p.tables.exec = Jvm.exec) (hb : c.code = cc) {off : Int} {tgt : Nat} (hdg : decode cc pc = .ok (.if_icmp .lt off, 3)) (ht : (pc : Int) + off = (tgt : Int)) (r : zr a ∧ zr b) (kt : a < b → W p l e R s m args below meth c H locs cells slots Q (F0 m (tgt) ls (rest))) (kf : b ≤ a → W p l e R s m args below meth c H locs cells slots Q (F0 m (pc + 3) ls (rest))) : W p l e R s m args below meth c H locs cells slots Q (F0 m (pc) ls (.int (iZ b) :: .int (iZ a) :: rest)) := lv_icmp_lt hx hb hdg ht (fun q => kt ((iZ_lt r.1 r.2).mp q)) (fun q => kf (Int.not_lt.mp fun z => q ((iZ_lt r.1 r.2).mpr z)))
theorem z_if_lt (hx : p.tables.exec = Jvm.exec) (hb : c.code = cc) {off : Int} {tgt : Nat} (hdg : decode cc pc = .ok (.ifCond .lt off, 3)) (ht : (pc : Int) + off = (tgt : Int)) (r : zr a) (kt : a < 0 → W p l e R s m args below meth c H locs cells slots Q (F0 m (tgt) ls (rest))) (kf : 0 ≤ a → W p l e R s m args below meth c H locs cells slots Q (F0 m (pc + 3) ls (rest))) : W p l e R s m args below meth c H locs cells slots Q (F0 m (pc) ls (.int (iZ a) :: rest)) := lv_if_lt hx hb hdg ht (fun q => kt ((iZ_lt r zr_0).mp q)) (fun q => kf (Int.not_lt.mp fun z => q ((iZ_lt r zr_0).mpr z)))
theorem z_icmp_le (hx : p.tables.exec = Jvm.exec) (hb : c.code = cc) {off : Int} {tgt : Nat} (hdg : decode cc pc = .ok (.if_icmp .le off, 3)) (ht : (pc : Int) + off = (tgt : Int)) (r : zr a ∧ zr b) (kt : a ≤ b → W p l e R s m args below meth c H locs cells slots Q (F0 m (tgt) ls (rest))) (kf : b < a → W p l e R s m args below meth c H locs cells slots Q (F0 m (pc + 3) ls (rest))) : W p l e R s m args below meth c H locs cells slots Q (F0 m (pc) ls (.int (iZ b) :: .int (iZ a) :: rest)) := lv_icmp_le hx hb hdg ht (fun q => kt ((iZ_le r.1 r.2).mp q)) (fun q => kf (Int.not_le.mp fun z => q ((iZ_le r.1 r.2).mpr z)))
theorem z_if_le (hx : p.tables.exec = Jvm.exec) (hb : c.code = cc) {off : Int} {tgt : Nat} (hdg : decode cc pc = .ok (.ifCond .le off, 3)) (ht : (pc : Int) + off = (tgt : Int)) (r : zr a) (kt : a ≤ 0 → W p l e R s m args below meth c H locs cells slots Q (F0 m (tgt) ls (rest))) (kf : 0 < a → W p l e R s m args below meth c H locs cells slots Q (F0 m (pc + 3) ls (rest))) : W p l e R s m args below meth c H locs cells slots Q (F0 m (pc) ls (.int (iZ a) :: rest)) := lv_if_le hx hb hdg ht (fun q => kt ((iZ_le r zr_0).mp q)) (fun q => kf (Int.not_le.mp fun z => q ((iZ_le r zr_0).mpr z)))
theorem z_icmp_gt (hx : p.tables.exec = Jvm.exec) (hb : c.code = cc) {off : Int} {tgt : Nat} (hdg : decode cc pc = .ok (.if_icmp .gt off, 3)) (ht : (pc : Int) + off = (tgt : Int)) (r : zr a ∧ zr b) (kt : b < a → W p l e R s m args below meth c H locs cells slots Q (F0 m (tgt) ls (rest))) (kf : a ≤ b → W p l e R s m args below meth c H locs cells slots Q (F0 m (pc + 3) ls (rest))) : W p l e R s m args below meth c H locs cells slots Q (F0 m (pc) ls (.int (iZ b) :: .int (iZ a) :: rest)) := lv_icmp_gt hx hb hdg ht (fun q => kt ((iZ_lt r.2 r.1).mp q)) (fun q => kf (Int.not_lt.mp fun z => q ((iZ_lt r.2 r.1).mpr z)))
theorem z_if_gt (hx : p.tables.exec = Jvm.exec) (hb : c.code = cc) {off : Int} {tgt : Nat} (hdg : decode cc pc = .ok (.ifCond .gt off, 3)) (ht : (pc : Int) + off = (tgt : Int)) (r : zr a) (kt : 0 < a → W p l e R s m args below meth c H locs cells slots Q (F0 m (tgt) ls (rest))) (kf : a ≤ 0 → W p l e R s m args below meth c H locs cells slots Q (F0 m (pc + 3) ls (rest))) : W p l e R s m args below meth c H locs cells slots Q (F0 m (pc) ls (.int (iZ a) :: rest)) := lv_if_gt hx hb hdg ht (fun q => kt ((iZ_lt zr_0 r).mp q)) (fun q => kf (Int.not_lt.mp fun z => q ((iZ_lt zr_0 r).mpr z)))
theorem z_icmp_ge (hx : p.tables.exec = Jvm.exec) (hb : c.code = cc) {off : Int} {tgt : Nat} (hdg : decode cc pc = .ok (.if_icmp .ge off, 3)) (ht : (pc : Int) + off = (tgt : Int)) (r : zr a ∧ zr b) (kt : b ≤ a → W p l e R s m args below meth c H locs cells slots Q (F0 m (tgt) ls (rest))) (kf : a < b → W p l e R s m args below meth c H locs cells slots Q (F0 m (pc + 3) ls (rest))) : W p l e R s m args below meth c H locs cells slots Q (F0 m (pc) ls (.int (iZ b) :: .int (iZ a) :: rest)) := lv_icmp_ge hx hb hdg ht (fun q => kt ((iZ_le r.2 r.1).mp q)) (fun q => kf (Int.not_le.mp fun z => q ((iZ_le r.2 r.1).mpr z)))
theorem z_if_ge (hx : p.tables.exec = Jvm.exec) (hb : c.code = cc) {off : Int} {tgt : Nat} (hdg : decode cc pc = .ok (.ifCond .ge off, 3)) (ht : (pc : Int) + off = (tgt : Int)) (r : zr a) (kt : 0 ≤ a → W p l e R s m args below meth c H locs cells slots Q (F0 m (tgt) ls (rest))) (kf : a < 0 → W p l e R s m args below meth c H locs cells slots Q (F0 m (pc + 3) ls (rest))) : W p l e R s m args below meth c H locs cells slots Q (F0 m (pc) ls (.int (iZ a) :: rest)) := lv_if_ge hx hb hdg ht (fun q => kt ((iZ_le zr_0 r).mp q)) (fun q => kf (Int.not_le.mp fun z => q ((iZ_le zr_0 r).mpr z)))
theorem z_icmp_eq (hx : p.tables.exec = Jvm.exec) (hb : c.code = cc) {off : Int} {tgt : Nat} (hdg : decode cc pc = .ok (.if_icmp .eq off, 3)) (ht : (pc : Int) + off = (tgt : Int)) (r : zr a ∧ zr b) (kt : a = b → W p l e R s m args below meth c H locs cells slots Q (F0 m (tgt) ls (rest))) (kf : a ≠ b → W p l e R s m args below meth c H locs cells slots Q (F0 m (pc + 3) ls (rest))) : W p l e R s m args below meth c H locs cells slots Q (F0 m (pc) ls (.int (iZ b) :: .int (iZ a) :: rest)) := lv_icmp_eq hx hb hdg ht (fun q => kt ((iZ_eq r.1 r.2).mp q)) (fun q => kf (fun z => q ((iZ_eq r.1 r.2).mpr z)))
theorem z_if_eq (hx : p.tables.exec = Jvm.exec) (hb : c.code = cc) {off : Int} {tgt : Nat} (hdg : decode cc pc = .ok (.ifCond .eq off, 3)) (ht : (pc : Int) + off = (tgt : Int)) (r : zr a) (kt : a = 0 → W p l e R s m args below meth c H locs cells slots Q (F0 m (tgt) ls (rest))) (kf : a ≠ 0 → W p l e R s m args below meth c H locs cells slots Q (F0 m (pc + 3) ls (rest))) : W p l e R s m args below meth c H locs cells slots Q (F0 m (pc) ls (.int (iZ a) :: rest)) := lv_if_eq hx hb hdg ht (fun q => kt ((iZ_eq r zr_0).mp q)) (fun q => kf (fun z => q ((iZ_eq r zr_0).mpr z)))
theorem z_icmp_ne (hx : p.tables.exec = Jvm.exec) (hb : c.code = cc) {off : Int} {tgt : Nat} (hdg : decode cc pc = .ok (.if_icmp .ne off, 3)) (ht : (pc : Int) + off = (tgt : Int)) (r : zr a ∧ zr b) (kt : a ≠ b → W p l e R s m args below meth c H locs cells slots Q (F0 m (tgt) ls (rest))) (kf : a = b → W p l e R s m args below meth c H locs cells slots Q (F0 m (pc + 3) ls (rest))) : W p l e R s m args below meth c H locs cells slots Q (F0 m (pc) ls (.int (iZ b) :: .int (iZ a) :: rest)) := lv_icmp_ne hx hb hdg ht (fun q => kt (fun z => q ((iZ_eq r.1 r.2).mpr z))) (fun q => kf ((iZ_eq r.1 r.2).mp q))
theorem z_if_ne (hx : p.tables.exec = Jvm.exec) (hb : c.code = cc) {off : Int} {tgt : Nat} (hdg : decode cc pc = .ok (.ifCond .ne off, 3)) (ht : (pc : Int) + off = (tgt : Int)) (r : zr a) (kt : a ≠ 0 → W p l e R s m args below meth c H locs cells slots Q (F0 m (tgt) ls (rest))) (kf : a = 0 → W p l e R s m args below meth c H locs cells slots Q (F0 m (pc + 3) ls (rest))) : W p l e R s m args below meth c H locs cells slots Q (F0 m (pc) ls (.int (iZ a) :: rest)) := lv_if_ne hx hb hdg ht (fun q => kt (fun z => q ((iZ_eq r zr_0).mpr z))) (fun q => kf ((iZ_eq r zr_0).mp q))
end ZROWS
section ZARR
variable {p : Program} {l : Launch} {e : Env} {R : Room} {s : State} {m : MethodId} {args : Array Value} {below : List Frame} {meth : Method} {c : Code} {H : Heap} {locs : List Loc} {cells slots : Nat} {Q : State → Prop}
variable {cc : ByteArray} {pc : Nat} {ls : Array Slot} {rest : List Value} {a b : Int}
variable {D : va_G} {cl : List vw_C} {A : Nat → Prop} {ad : Nat} {tys : List (ClassId × FieldType)} {ws : va_W} {H0 : Heap} {cA : ClassId} {n : Nat} {g : Nat → Int}
theorem z_iald (hx : p.tables.exec = Jvm.exec) (hb : c.code = cc) (hK : va_K D cl tys s) (hP : va_P D cl ws H) (q0 t0 : Nat) (ha : ws[q0]? = some (ad, .inl (cA, n, .inl (zA g)))) (ht : tys[t0]? = some (cA, .int)) (k0 : Nat) (hi : a = k0 ∧ k0 < n ∧ n ≤ 2147483647) (hdg : decode cc pc = .ok (.iaload, 1)) (k : W p l e R s m args below meth c H locs cells slots Q (F0 m (pc + 1) ls (.int (iZ (g k0)) :: rest))) : W p l e R s m args below meth c H locs cells slots Q (F0 m (pc) ls (.int (iZ a) :: .ref ad :: rest)) := va_iald hx hb hK hP q0 t0 ha ht (iZ_in (by omega) (by omega) (by omega)) hdg (by rw [iZ_cl (by omega) (by omega), hi.1]; exact k)
theorem z_bald (hx : p.tables.exec = Jvm.exec) (hb : c.code = cc) (hK : va_K D cl tys s) (hP : va_P D cl ws H) (q0 t0 : Nat) (ha : ws[q0]? = some (ad, .inl (cA, n, .inl (zA g)))) (ht : tys[t0]? = some (cA, .byte)) (k0 : Nat) (hi : a = k0 ∧ k0 < n ∧ n ≤ 2147483647) (hdg : decode cc pc = .ok (.baload, 1)) (k : W p l e R s m args below meth c H locs cells slots Q (F0 m (pc + 1) ls (.int (iZ (g k0)) :: rest))) : W p l e R s m args below meth c H locs cells slots Q (F0 m (pc) ls (.int (iZ a) :: .ref ad :: rest)) := va_bald hx hb hK hP q0 t0 ha ht (iZ_in (by omega) (by omega) (by omega)) hdg (by rw [iZ_cl (by omega) (by omega), hi.1]; exact k)
theorem z_iast (hx : p.tables.exec = Jvm.exec) (hb : c.code = cc) (hK : va_K D cl tys s) (hP : va_P D cl ws H) (hD : va_D A ws) (hS : va_S A H0 H locs) (q0 t0 : Nat) (ha : ws[q0]? = some (ad, .inl (cA, n, .inl (zA g)))) (ht : tys[t0]? = some (cA, .int)) (k0 : Nat) {x : Int} (hi : a = k0 ∧ k0 < n ∧ n ≤ 2147483647) (hdg : decode cc pc = .ok (.iastore, 1)) (k : ∀ (H1 : Heap) (locs1 : List Loc), va_P D cl (ws.set q0 (ad, .inl (cA, n, .inl (zA (zu g k0 x))))) H1 → va_D A (ws.set q0 (ad, .inl (cA, n, .inl (zA (zu g k0 x))))) → va_S A H0 H1 locs1 → W p l e R s m args below meth c H1 locs1 cells slots Q (F0 m (pc + 1) ls (rest))) : W p l e R s m args below meth c H locs cells slots Q (F0 m (pc) ls (.int (iZ x) :: .int (iZ a) :: .ref ad :: rest)) := by
  refine va_iast hx hb hK hP hD hS q0 t0 ha ht (iZ_in (by omega) (by omega) (by omega)) hdg (fun H1 locs1 h1 h2 h3 => ?_)
  rw [iZ_cl (by omega) (by omega), hi.1, Int.toNat_natCast, zA_u] at h1 h2
  exact k H1 locs1 h1 h2 h3
theorem z_bast (hx : p.tables.exec = Jvm.exec) (hb : c.code = cc) (hK : va_K D cl tys s) (hP : va_P D cl ws H) (hD : va_D A ws) (hS : va_S A H0 H locs) (q0 t0 : Nat) (ha : ws[q0]? = some (ad, .inl (cA, n, .inl (zA g)))) (ht : tys[t0]? = some (cA, .byte)) (k0 : Nat) {x : Int} (hi : a = k0 ∧ k0 < n ∧ n ≤ 2147483647) (hdg : decode cc pc = .ok (.bastore, 1)) (k : ∀ (H1 : Heap) (locs1 : List Loc), va_P D cl (ws.set q0 (ad, .inl (cA, n, .inl (zA (zu g k0 (x.bmod 256)))))) H1 → va_D A (ws.set q0 (ad, .inl (cA, n, .inl (zA (zu g k0 (x.bmod 256)))))) → va_S A H0 H1 locs1 → W p l e R s m args below meth c H1 locs1 cells slots Q (F0 m (pc + 1) ls (rest))) : W p l e R s m args below meth c H locs cells slots Q (F0 m (pc) ls (.int (iZ x) :: .int (iZ a) :: .ref ad :: rest)) := by
  refine va_bast hx hb hK hP hD hS q0 t0 ha ht (iZ_in (by omega) (by omega) (by omega)) hdg (fun H1 locs1 h1 h2 h3 => ?_)
  rw [iZ_cl (by omega) (by omega), hi.1, Int.toNat_natCast, iZ_narB, zA_u] at h1 h2
  exact k H1 locs1 h1 h2 h3
end ZARR
/-! contracts' forms, and calls: the words are the tables' own, the same list for every method; the links to private members of a nest mate stand in zK -/
def zT : List Cond := lw_tbl.filter goodWord
def z_isNest : Cond → Bool
  | .fieldLinkNest .. | .methodLinkNest .. => true
  | _ => false
theorem zT_of {w : Cond} (h : w ∈ lw_tbl) (hg : goodWord w = true) : w ∈ zT := List.mem_filter.mpr ⟨h, hg⟩
theorem zg_all : GoodIn zT zT := fun w hw => ⟨hw, good_of_word (List.mem_filter.mp hw).2⟩
theorem zg_code {cd : Cond} (h : cd ∈ zT) : GoodIn zT (cd :: zT) := fun w hw => by
  rcases List.mem_cons.mp hw with rfl | hw
  · exact zg_all _ h
  · exact zg_all _ hw
theorem zg_hts {cd : Cond} {args : Array Value} {s : State} (h : ∀ w ∈ cd :: zT, w.before args s = true) : ∀ w ∈ zT, w.before args s = true := fun w hw => h w (List.mem_cons_of_mem _ hw)
def zK (D : va_G) (cl : List vw_C) (tys : List (ClassId × FieldType)) (U : State) : Prop := va_K D cl tys U ∧ ∀ w ∈ lw_tbl, z_isNest w = true → va_Nw w U
theorem zK.moved {D : va_G} {cl : List vw_C} {tys : List (ClassId × FieldType)} {s U : State} (hW : s.WarmedH U.vm) (h : zK D cl tys s) : zK D cl tys U := by
  refine ⟨va_K.moved hW.alike h.1, fun w hw hn => ?_⟩
  have h0 := h.2 w hw hn
  cases w with
  | fieldLinkNest => exact va_Nw.warmF hW h0
  | methodLinkNest => exact va_Nw.warmM hW h0
  | _ => cases hn
theorem zK.calling {D : va_G} {cl : List vw_C} {tys : List (ClassId × FieldType)} {U : State} {g : JFrame} {mk : MethodId} {a : Array Value} (h : zK D cl tys U) : zK D cl tys (U.calling g mk a) := by
  refine ⟨va_K.moved (u := U) (U := U.calling g mk a) (Vm.Alike.refl U.vm) h.1, fun w hw hn => ?_⟩
  have h0 := h.2 w hw hn
  cases w with
  | fieldLinkNest => exact va_Nw.same rfl (rfl : U.vm = (U.calling g mk a).vm) h0
  | methodLinkNest => exact va_Nw.same rfl (rfl : U.vm = (U.calling g mk a).vm) h0
  | _ => cases hn
theorem zK.nest {D : va_G} {cl : List vw_C} {tys : List (ClassId × FieldType)} {U : State} (h : zK D cl tys U) {w : Cond} (hw : w ∈ lw_tbl) (hn : z_isNest w = true) : va_Nw w U := h.2 w hw hn
abbrev zPc (D : va_G) (cl : List vw_C) (tys : List (ClassId × FieldType)) (ws : va_W) (sz : Nat) (av : List Value) : Array Value → State → Prop := va_Pc av (fun U => U.heap.size = sz ∧ va_P D cl ws U.heap ∧ zK D cl tys U ∧ va_D (fun _ => True) ws)
abbrev zRc (D : va_G) (cl : List vw_C) (tys : List (ClassId × FieldType)) (ws : va_W) (av : List Value) : Array Value → State → Prop := va_Pc av (fun U => va_P D cl ws U.heap ∧ zK D cl tys U)
abbrev zFv {S : Type} (D : va_G) (cl : List vw_C) (post : S → Prop) (w1 : S → va_W) (A : Nat → Prop) : Array Value → State → Outcome → State → Prop := va_Qv post (fun u t => va_P D cl (w1 u) t.heap ∧ va_D A (w1 u)) A
abbrev zFi {S : Type} (D : va_G) (cl : List vw_C) (post : Int → S → Prop) (w1 : S → va_W) (A : Nat → Prop) : Array Value → State → Outcome → State → Prop := va_Qi (fun r u => ∃ z : Int, r = iZ z ∧ post z u) (fun u t => va_P D cl (w1 u) t.heap ∧ va_D A (w1 u)) A
abbrev zSi (post : Int → Prop) : Array Value → State → Outcome → State → Prop := vp_Si (fun r => ∃ z : Int, r = iZ z ∧ post z)
theorem z_blind {D : va_G} {cl : List vw_C} {tys : List (ClassId × FieldType)} {ws : va_W} {sz : Nat} {av : List Value} : FrameBlind (zPc D cl tys ws sz av) := fun a U g mk q => by
  obtain ⟨q0, q1, qP, qK, qD⟩ := q
  exact ⟨q0, q1, qP, qK.calling, qD⟩
theorem z_blindR {D : va_G} {cl : List vw_C} {tys : List (ClassId × FieldType)} {ws : va_W} {av : List Value} : FrameBlind (zRc D cl tys ws av) := fun a U g mk q => by
  obtain ⟨q0, qP, qK⟩ := q
  exact ⟨q0, qP, qK.calling⟩
section ZCALL
variable {p : Program} {l : Launch} {e : Env} {R : Room} {s : State} {m : MethodId} {args : Array Value} {below : List Frame} {meth : Method} {c : Code} {H : Heap} {locs : List Loc} {cells slots : Nat} {Q : State → Prop}
variable {D : va_G} {cl : List vw_C} {tys : List (ClassId × FieldType)} {ws wc wr : va_W} {A : Nat → Prop} {H0 : Heap} {As : List Value} {b ci : Nat} {q : vw_C} {fs : List Value}
theorem z_preV (hK : zK D cl tys s) (hP : va_P D cl ws H) (hD : va_D A ws) (is : List Nat) (hn : va_nd is = true) (h1 : is.filterMap (fun i => ws[i]?) = wc) (h2 : is.map (fun i => ws[i]?) = wc.map some) (hc : cl[ci]? = some q) (he : wc[0]? = some (b, .inr (ci, fs))) : PreV s H q.1 b (zPc D cl tys wc H.size (.ref b :: As)) As :=
  have hPc := hP.sub is h1
  have hDc := hD.sub is hn h2
  ⟨z_blind, va_recv hK.1 hPc hc he, fun _ hU hW => ⟨rfl, by rw [hU], by rw [hU]; exact hPc, hK.moved hW, hDc.weaken (fun _ _ _ _ => trivial)⟩⟩
theorem z_preS (hK : zK D cl tys s) (hP : va_P D cl ws H) (hD : va_D A ws) (is : List Nat) (hn : va_nd is = true) (h1 : is.filterMap (fun i => ws[i]?) = wc) (h2 : is.map (fun i => ws[i]?) = wc.map some) : PreS s H (zPc D cl tys wc H.size As) As :=
  have hPc := hP.sub is h1
  have hDc := hD.sub is hn h2
  ⟨z_blind, fun _ hU hW => ⟨rfl, by rw [hU], by rw [hU]; exact hPc, hK.moved hW, hDc.weaken (fun _ _ _ _ => trivial)⟩⟩
theorem z_preVR (hK : zK D cl tys s) (hP : va_P D cl ws H) (is : List Nat) (h1 : is.filterMap (fun i => ws[i]?) = wc) (hc : cl[ci]? = some q) (he : wc[0]? = some (b, .inr (ci, fs))) : PreV s H q.1 b (zRc D cl tys wc (.ref b :: As)) As :=
  have hPc := hP.sub is h1
  ⟨z_blindR, va_recv hK.1 hPc hc he, fun _ hU hW => ⟨rfl, by rw [hU]; exact hPc, hK.moved hW⟩⟩
theorem z_preSR (hK : zK D cl tys s) (hP : va_P D cl ws H) (is : List Nat) (h1 : is.filterMap (fun i => ws[i]?) = wc) : PreS s H (zRc D cl tys wc As) As :=
  have hPc := hP.sub is h1
  ⟨z_blindR, fun _ hU hW => ⟨rfl, by rw [hU]; exact hPc, hK.moved hW⟩⟩
variable {pc mc ms : Nat} {ls : Array Slot} {rest st0 : List Value} {a : Array Value} {S : Type}
theorem z_backv {post : S → Prop} {w1 : S → va_W} (hP : va_P D cl ws H) (hD : va_D A ws) (hS : va_S A H0 H locs) (hA : ∀ q, H0.size ≤ q → A q) (isC isR : List Nat) (hC : isC.map (fun i => ws[i]?) = wc.map some) (hR : isR.map (fun i => ws[i]?) = wr.map some) (hn : va_nd isR = true) (hdis : ∀ i ∈ isR, i ∉ isC)
    (hr : va_Run p l e R s m args below meth c H locs cells slots mc ms (F0 m pc ls st0) rest (zFv D cl post w1 (va_A wc H.size) a) (va_A wc H.size))
    (kk : ∀ (u : S) (H1 : Heap) (locs1 : List Loc), post u → va_P D cl (wr ++ w1 u) H1 → va_D A (wr ++ w1 u) → va_S A H0 H1 locs1 → W p l e R s m args below meth c H1 locs1 (cells + mc) (slots + ms) Q (F0 m (pc + 3) ls rest)) : W p l e R s m args below meth c H locs cells slots Q (F0 m pc ls st0) := by
  have hF := va_free hD hS hA isC hC
  refine va_callv hr hS (fun q _ h => hF q h) hF (fun u t H1 locs1 ht hvm hw hB hz1 hk1 hS1 => ?_)
  obtain ⟨hP1, hD1⟩ := hB
  rw [ht] at hP1
  obtain ⟨hP2, hD2⟩ := va_join hP hD isC isR hC hR hn hdis hk1 hF hP1 hD1
  exact kk u H1 locs1 hw hP2 hD2 hS1
theorem z_backi {post : Int → S → Prop} {w1 : S → va_W} (hP : va_P D cl ws H) (hD : va_D A ws) (hS : va_S A H0 H locs) (hA : ∀ q, H0.size ≤ q → A q) (isC isR : List Nat) (hC : isC.map (fun i => ws[i]?) = wc.map some) (hR : isR.map (fun i => ws[i]?) = wr.map some) (hn : va_nd isR = true) (hdis : ∀ i ∈ isR, i ∉ isC)
    (hr : va_Run p l e R s m args below meth c H locs cells slots mc ms (F0 m pc ls st0) rest (zFi D cl post w1 (va_A wc H.size) a) (va_A wc H.size))
    (kk : ∀ (z : Int) (u : S) (H1 : Heap) (locs1 : List Loc), post z u → va_P D cl (wr ++ w1 u) H1 → va_D A (wr ++ w1 u) → va_S A H0 H1 locs1 → W p l e R s m args below meth c H1 locs1 (cells + mc) (slots + ms) Q (F0 m (pc + 3) ls (.int (iZ z) :: rest))) : W p l e R s m args below meth c H locs cells slots Q (F0 m pc ls st0) := by
  have hF := va_free hD hS hA isC hC
  refine va_calli hr hS (fun q _ h => hF q h) hF (fun r u t H1 locs1 ht hvm hw hB hz1 hk1 hS1 => ?_)
  obtain ⟨hP1, hD1⟩ := hB
  rw [ht] at hP1
  obtain ⟨hP2, hD2⟩ := va_join hP hD isC isR hC hR hn hdis hk1 hF hP1 hD1
  obtain ⟨z, rfl, hz⟩ := hw
  exact kk z u H1 locs1 hz hP2 hD2 hS1
theorem z_backr {post : Int → Prop} (hr : va_Run p l e R s m args below meth c H locs cells slots 0 0 (F0 m pc ls st0) rest (zSi post a) (fun _ => False))
    (kk : ∀ z : Int, post z → W p l e R s m args below meth c H locs cells slots Q (F0 m (pc + 3) ls (.int (iZ z) :: rest))) : W p l e R s m args below meth c H locs cells slots Q (F0 m pc ls st0) := by
  refine vp_callSi hr.run (fun r hp => ?_)
  obtain ⟨z, rfl, hz⟩ := hp
  exact kk z hz
end ZCALL
section ZCW
variable {R : Room} {s : State} {args : Array Value} {own C host : String} {index maxL mc ms : Nat} {y : MethodName} {bytes : ByteArray} {ret : Option FieldType} {rm : Room}
theorem zc_V (n : Nat) (ht : ∀ w ∈ zT, w.before args s = true) (hcd : Cond.code y bytes maxL ret ∈ zT) (hlk : Cond.methodLink own index y ∈ zT) (him : Cond.instanceMethod y ∈ zT) (hse : Cond.selects C y y ∈ zT) (hin : Cond.initialized y.cls ∈ zT)
    (hd : y.cls ≠ "java/lang/invoke/MethodHandle" ∧ y.cls ≠ "java/lang/invoke/VarHandle" ∧ (parseMethodDescriptor y.desc).map (fun d => d.parameters.length) = some n) (hR : rm.frames + 1 ≤ R.frames ∧ 8 + (maxL + 11) + rm.locals ≤ R.locals) (hrc : rm.cells = mc) (hrs : rm.slots = ms) :
    CallW R s args own C index y bytes maxL ret (Cond.code y bytes maxL ret :: zT) rm mc ms n :=
  ⟨callB_of n ht (zg_code hcd) rfl hrc hrs (ht _ hin) (ht _ hlk) hd hR, ht _ him, ht _ hse⟩
theorem zc_S (n : Nat) (ht : ∀ w ∈ zT, w.before args s = true) (hcd : Cond.code y bytes maxL ret ∈ zT) (hlk : Cond.methodLink own index y ∈ zT) (hst : Cond.static y ∈ zT) (hin : Cond.initialized y.cls ∈ zT)
    (hd : y.cls ≠ "java/lang/invoke/MethodHandle" ∧ y.cls ≠ "java/lang/invoke/VarHandle" ∧ (parseMethodDescriptor y.desc).map (fun d => d.parameters.length) = some n) (hR : rm.frames + 1 ≤ R.frames ∧ 8 + (maxL + 11) + rm.locals ≤ R.locals) (hrc : rm.cells = mc) (hrs : rm.slots = ms) :
    CallB R s args own index y bytes maxL ret (Cond.code y bytes maxL ret :: zT) rm mc ms n ∧ (Cond.static y).before args s = true :=
  ⟨callB_of n ht (zg_code hcd) rfl hrc hrs (ht _ hin) (ht _ hlk) hd hR, ht _ hst⟩
theorem zc_I (n : Nat) (ht : ∀ w ∈ zT, w.before args s = true) (hcd : Cond.code y bytes maxL none ∈ zT) (hlk : Cond.methodLink own index y ∈ zT) (him : Cond.instanceMethod y ∈ zT) (hin : Cond.initialized y.cls ∈ zT) (hy : y.name = "<init>")
    (hd : y.cls ≠ "java/lang/invoke/MethodHandle" ∧ y.cls ≠ "java/lang/invoke/VarHandle" ∧ (parseMethodDescriptor y.desc).map (fun d => d.parameters.length) = some n) (hR : rm.frames + 1 ≤ R.frames ∧ 8 + (maxL + 11) + rm.locals ≤ R.locals) (hrc : rm.cells = mc) (hrs : rm.slots = ms) :
    CallB R s args own index y bytes maxL none (Cond.code y bytes maxL none :: zT) rm mc ms n ∧ y.name = "<init>" ∧ (Cond.instanceMethod y).before args s = true :=
  ⟨callB_of n ht (zg_code hcd) rfl hrc hrs (ht _ hin) (ht _ hlk) hd hR, hy, ht _ him⟩
theorem zc_SN (n : Nat) (ht : ∀ w ∈ zT, w.before args s = true) (hcd : Cond.code y bytes maxL ret ∈ zT) (hlk : va_Nw (.methodLinkNest own index y host) s) (hst : Cond.static y ∈ zT) (hin : Cond.initialized y.cls ∈ zT)
    (hd : y.cls ≠ "java/lang/invoke/MethodHandle" ∧ y.cls ≠ "java/lang/invoke/VarHandle" ∧ (parseMethodDescriptor y.desc).map (fun d => d.parameters.length) = some n) (hR : rm.frames + 1 ≤ R.frames ∧ 8 + (maxL + 11) + rm.locals ≤ R.locals) (hrc : rm.cells = mc) (hrs : rm.slots = ms) :
    va_CN R s args own index y host bytes maxL ret (Cond.code y bytes maxL ret :: zT) rm mc ms n ∧ (Cond.static y).before args s = true ∧ True :=
  ⟨va_cnB n ht (zg_code hcd) rfl hrc hrs hlk (ht _ hin) hd hR, ht _ hst, trivial⟩
theorem zc_IN (n : Nat) (ht : ∀ w ∈ zT, w.before args s = true) (hcd : Cond.code y bytes maxL none ∈ zT) (hlk : va_Nw (.methodLinkNest own index y host) s) (him : Cond.instanceMethod y ∈ zT) (hin : Cond.initialized y.cls ∈ zT) (hy : y.name = "<init>")
    (hd : y.cls ≠ "java/lang/invoke/MethodHandle" ∧ y.cls ≠ "java/lang/invoke/VarHandle" ∧ (parseMethodDescriptor y.desc).map (fun d => d.parameters.length) = some n) (hR : rm.frames + 1 ≤ R.frames ∧ 8 + (maxL + 11) + rm.locals ≤ R.locals) (hrc : rm.cells = mc) (hrs : rm.slots = ms) :
    va_CN R s args own index y host bytes maxL none (Cond.code y bytes maxL none :: zT) rm mc ms n ∧ y.name = "<init>" ∧ (Cond.instanceMethod y).before args s = true :=
  ⟨va_cnB n ht (zg_code hcd) rfl hrc hrs hlk (ht _ hin) hd hR, hy, ht _ him⟩
theorem zc_VN (n : Nat) (ht : ∀ w ∈ zT, w.before args s = true) (hcd : Cond.code y bytes maxL ret ∈ zT) (hlk : va_Nw (.methodLinkNest own index y host) s) (him : Cond.instanceMethod y ∈ zT) (hse : Cond.selects C y y ∈ zT) (hin : Cond.initialized y.cls ∈ zT)
    (hd : y.cls ≠ "java/lang/invoke/MethodHandle" ∧ y.cls ≠ "java/lang/invoke/VarHandle" ∧ (parseMethodDescriptor y.desc).map (fun d => d.parameters.length) = some n) (hR : rm.frames + 1 ≤ R.frames ∧ 8 + (maxL + 11) + rm.locals ≤ R.locals) (hrc : rm.cells = mc) (hrs : rm.slots = ms) :
    va_CN R s args own index y host bytes maxL ret (Cond.code y bytes maxL ret :: zT) rm mc ms n ∧ (Cond.instanceMethod y).before args s = true ∧ (Cond.selects C y y).before args s = true :=
  ⟨va_cnB n ht (zg_code hcd) rfl hrc hrs hlk (ht _ hin) hd hR, ht _ him, ht _ hse⟩
end ZCW
/-! a contract's beginning and its end -/
abbrev zE (p : Program) (s : State) (m : MethodId) (args : Array Value) (meth : Method) (c : Code) (own : String) (cc : ByteArray) (maxL : Nat) (ret : Option FieldType) : Prop := p.tables.exec = Jvm.exec ∧ c.code = cc ∧ meth.sig.returnType = ret ∧ c.maxLocals = maxL ∧ s.vm.findClass own = some m.cls ∧ (∀ w ∈ zT, w.before args s = true) ∧ meth.locks = false
section ZOF
variable {l : Launch} {y : MethodName} {cc : ByteArray} {maxL : Nat} {ret : Option FieldType} {rm : Room} {D : va_G} {cl : List vw_C} {tys : List (ClassId × FieldType)} {ws : va_W} {sz : Nat} {av : List Value} {mc ms : Nat} {S : Type}
theorem z_nb {z : Int} (h : z = 0 ∨ z = 1) : narrow .boolean (.int (iZ z)) = .int (iZ z) := by rcases h with rfl | rfl <;> rfl
/-- a method that answers nothing: its body, with any end Q that a return in the right world reaches -/
theorem z_ofv {post : S → Prop} {w1 : S → va_W} (hy : plainName y.cls = true) (hlen : (lg_sl av).length ≤ maxL) (hret : ret = none)
    (body : ∀ (p : Program) (e : Env) (s : State) (m : MethodId) (args : Array Value) (below : List Frame) (meth : Method) (c : Code) (A : Nat → Prop) (Q : State → Prop), zE p s m args meth c y.cls cc maxL ret → (meth.name = y.name) → (∀ q : Nat, s.heap.size ≤ q → A q) → zK D cl tys s →
      (∀ (H : Heap) (locs : List Loc) (u : S) (ls : Array Slot) (pc : Nat), post u → va_P D cl (w1 u) H → va_D A (w1 u) → va_S A s.heap H locs → decode cc pc = .ok (.return_, 1) → W p l e rm s m args below meth c H locs mc ms Q (F0 m pc ls [])) →
      ∀ (H : Heap) (locs : List Loc), va_P D cl ws H → va_D A ws → va_S A s.heap H locs → ∀ ls : Array Slot, lv_has ls maxL (lv_args 0 av) → W p l e rm s m args below meth c H locs 0 0 Q (F0 m 0 ls [])) :
    Met l y (.code y cc maxL ret :: zT) rm (zPc D cl tys ws sz av) (zFv D cl post w1 (va_A ws sz)) mc ms (va_A ws sz) := by
  refine Met.ofW (cc := cc) (maxL := maxL) (ret := ret) hy rfl ?_
  intro p e s m args below meth c s₁ B hml hv
  obtain ⟨rfl, hsz, hP, hK, hD0⟩ := hv
  subst hsz
  rw [lg_entry_eq]
  refine body p e s m _ below meth c _ _ ⟨B.exec, B.bytes, B.returns, hml, findClass_of_methodNamed B.named, zg_hts (atoms_spec (ws := .code y cc maxL ret :: zT) B.pre), B.notSynchronized⟩ (name_of_methodNamed B.named B.method).1 (fun q h => Or.inr h) hK ?_ _ _ hP (hD0.self) va_S.rf _ (lv_entry av hlen)
  intro H locs u ls pc hp hP1 hD1 hS1 hdg
  exact W.vret B.exec B.bytes (B.returns.trans hret) (fun _ ht _ => ⟨⟨u, rfl, hp, by rw [ht]; exact hP1, hD1⟩, hS1.F ht⟩) hS1.2.2 hdg B.notSynchronized
/-- a method that answers an int or a boolean -/
theorem z_ofi {post : Int → S → Prop} {w1 : S → va_W} (hy : plainName y.cls = true) (hlen : (lg_sl av).length ≤ maxL) (hret : ret = some .int ∨ ret = some .boolean)
    (body : ∀ (p : Program) (e : Env) (s : State) (m : MethodId) (args : Array Value) (below : List Frame) (meth : Method) (c : Code) (A : Nat → Prop) (Q : State → Prop), zE p s m args meth c y.cls cc maxL ret → (∀ q : Nat, s.heap.size ≤ q → A q) → zK D cl tys s →
      (∀ (H : Heap) (locs : List Loc) (z : Int) (u : S) (ls : Array Slot) (pc : Nat), (ret = some .int ∨ z = 0 ∨ z = 1) → post z u → va_P D cl (w1 u) H → va_D A (w1 u) → va_S A s.heap H locs → decode cc pc = .ok (.ireturn, 1) → W p l e rm s m args below meth c H locs mc ms Q (F0 m pc ls [.int (iZ z)])) →
      ∀ (H : Heap) (locs : List Loc), va_P D cl ws H → va_D A ws → va_S A s.heap H locs → ∀ ls : Array Slot, lv_has ls maxL (lv_args 0 av) → W p l e rm s m args below meth c H locs 0 0 Q (F0 m 0 ls [])) :
    Met l y (.code y cc maxL ret :: zT) rm (zPc D cl tys ws sz av) (zFi D cl post w1 (va_A ws sz)) mc ms (va_A ws sz) := by
  refine Met.ofW (cc := cc) (maxL := maxL) (ret := ret) hy rfl ?_
  intro p e s m args below meth c s₁ B hml hv
  obtain ⟨rfl, hsz, hP, hK, hD0⟩ := hv
  subst hsz
  rw [lg_entry_eq]
  refine body p e s m _ below meth c _ _ ⟨B.exec, B.bytes, B.returns, hml, findClass_of_methodNamed B.named, zg_hts (atoms_spec (ws := .code y cc maxL ret :: zT) B.pre), B.notSynchronized⟩ (fun q h => Or.inr h) hK ?_ _ _ hP (hD0.self) va_S.rf _ (lv_entry av hlen)
  intro H locs z u ls pc hz hp hP1 hD1 hS1 hdg
  rcases hret with hret | hret
  · exact W.iret B.exec B.bytes (B.returns.trans hret) (fun _ ht _ => ⟨⟨iZ z, u, rfl, ⟨z, rfl, hp⟩, by rw [ht]; exact hP1, hD1⟩, hS1.F ht⟩) hS1.2.2 hdg B.notSynchronized
  · exact W.zret B.exec B.bytes (B.returns.trans hret) (z_nb (hz.resolve_left (by rw [hret]; decide))) (fun _ ht _ => ⟨⟨iZ z, u, rfl, ⟨z, rfl, hp⟩, by rw [ht]; exact hP1, hD1⟩, hS1.F ht⟩) hS1.2.2 hdg B.notSynchronized
/-- .. that changes nothing -/
theorem z_ofr {post : Int → Prop} (hy : plainName y.cls = true) (hlen : (lg_sl av).length ≤ maxL) (hret : ret = some .int ∨ ret = some .boolean)
    (body : ∀ (p : Program) (e : Env) (s : State) (m : MethodId) (args : Array Value) (below : List Frame) (meth : Method) (c : Code) (Q : State → Prop), zE p s m args meth c y.cls cc maxL ret → va_P D cl ws s.heap → zK D cl tys s →
      (∀ (z : Int) (ls : Array Slot) (pc : Nat), (ret = some .int ∨ z = 0 ∨ z = 1) → post z → decode cc pc = .ok (.ireturn, 1) → W p l e rm s m args below meth c s.heap [] 0 0 Q (F0 m pc ls [.int (iZ z)])) →
      ∀ ls : Array Slot, lv_has ls maxL (lv_args 0 av) → W p l e rm s m args below meth c s.heap [] 0 0 Q (F0 m 0 ls [])) :
    Met l y (.code y cc maxL ret :: zT) rm (zRc D cl tys ws av) (zSi post) 0 0 (fun _ => False) := by
  refine Met.ofW (cc := cc) (maxL := maxL) (ret := ret) hy rfl ?_
  intro p e s m args below meth c s₁ B hml hv
  obtain ⟨rfl, hP, hK⟩ := hv
  rw [lg_entry_eq]
  refine body p e s m _ below meth c _ ⟨B.exec, B.bytes, B.returns, hml, findClass_of_methodNamed B.named, zg_hts (atoms_spec (ws := .code y cc maxL ret :: zT) B.pre), B.notSynchronized⟩ hP hK ?_ _ (lv_entry av hlen)
  intro z ls pc hz hp hdg
  rcases hret with hret | hret
  · exact W.iret B.exec B.bytes (B.returns.trans hret) (fun _ ht _ => ⟨iZ z, rfl, ⟨z, rfl, hp⟩, ht⟩) (fun _ h => by cases h) hdg B.notSynchronized
  · exact W.zret B.exec B.bytes (B.returns.trans hret) (z_nb (hz.resolve_left (by rw [hret]; decide))) (fun _ ht _ => ⟨iZ z, rfl, ⟨z, rfl, hp⟩, ht⟩) (fun _ h => by cases h) hdg B.notSynchronized
end ZOF
theorem z_fitB {a : Int} (h : -128 ≤ a ∧ a < 128) : fits .byte (.int (iZ a)) = true := by
  have e : iZ a = (iZ a).toInt8.toInt32 := by
    rw [iZ_i2b]
    congr 1
    rw [Int.bmod_def]
    split <;> omega
  rw [e]
  exact pk_fb _
section ZCOPY
variable {p : Program} {l : Launch} {e : Env} {R : Room} {s : State} {m : MethodId} {args : Array Value} {below : List Frame} {meth : Method} {c : Code} {H : Heap} {locs : List Loc} {cells slots : Nat} {Q : State → Prop}
variable {cc : ByteArray} {pc : Nat} {ls : Array Slot} {rest : List Value} {D : va_G} {cl : List vw_C} {A : Nat → Prop} {a0 a1 : Nat} {tys : List (ClassId × FieldType)} {ws : va_W} {H0 : Heap} {cA : ClassId} {f g : Nat → Int}
theorem z_copyB (hx : p.tables.exec = Jvm.exec) (hb : c.code = cc) (hml : c.maxLocals = ls.size) {own : String} {index : Nat} (hown : s.vm.findClass own = some m.cls) (hlink : (Cond.methodLink own index arraycopyName).before args s = true) (hnat : (Cond.native arraycopyName).before args s = true) (hstat : (Cond.static arraycopyName).before args s = true) (hini : (Cond.initialized "java/lang/System").before args s = true)
    (hK : va_K D cl tys s) (hP : va_P D cl ws H) (hD : va_D A ws) (hS : va_S A H0 H locs) (q0 q1 t0 : Nat) (ha0 : ws[q0]? = some (a0, .inl (cA, 6000, .inl (zA f)))) (ha1 : ws[q1]? = some (a1, .inl (cA, 6000, .inl (zA g)))) (ht : tys[t0]? = some (cA, .byte)) (hf : ∀ k, -128 ≤ f k ∧ f k < 128)
    (hframes : 1 ≤ R.frames) (hlocals : (rest.map fun v => v.category).sum + (nativeFrameWords "java/lang/System" "arraycopy" 5 + 11) ≤ R.locals) (hdg : decode cc pc = .ok (.invokestatic index, 3))
    (kk : ∀ (H1 : Heap) (locs1 : List Loc), va_P D cl (ws.set q1 (a1, .inl (cA, 6000, .inl (zA (fun k => if k < 6000 then f k else g k))))) H1 → va_D A (ws.set q1 (a1, .inl (cA, 6000, .inl (zA (fun k => if k < 6000 then f k else g k))))) → va_S A H0 H1 locs1 → W p l e R s m args below meth c H1 locs1 cells slots Q (F0 m (pc + 3) ls rest)) :
    W p l e R s m args below meth c H locs cells slots Q (F0 m pc ls (.int (iZ 6000) :: .int (iZ 0) :: .ref a1 :: .int (iZ 0) :: .ref a0 :: rest)) := by
  have e0 : (iZ 0).toNatClampNeg = 0 := by decide
  have e6 : (iZ 6000).toNatClampNeg = 6000 := by decide
  have ec : va_cpy (zA f) (zA g) 0 0 6000 = zA (fun k => if k < 6000 then f k else g k) := by
    funext k
    show (if 0 ≤ k ∧ k < 0 + 6000 then iZ (f (0 + (k - 0))) else iZ (g k)) = iZ (if k < 6000 then f k else g k)
    by_cases hk : k < 6000
    · simp [hk]
    · simp [hk]
  refine va_copyi hx hb hml hown hlink hnat hstat hini hK hP hD hS q0 q1 t0 t0 ha0 ha1 ht ht rfl (by decide) (by decide) (by decide) (by rw [e0, e6]; decide) (by rw [e0, e6]; decide) (fun i _ => z_fitB (hf _)) hframes hlocals hdg (fun H1 locs1 h1 h2 h3 => ?_)
  rw [e0, e6, ec] at h1 h2
  exact kk H1 locs1 h1 h2 h3
end ZCOPY
/-! longs, switches, new arrays -/
theorem lZ_sh : ∀ n : Fin 64, (((iZ (n : Nat)).toInt64 &&& 63).toBitVec.smod 64).toNat = (n : Nat) := by decide +kernel
theorem lZ_shr (x : Int64) {n : Nat} (hn : n < 64) : (x >>> ((iZ n).toInt64 &&& 63)).toInt = x.toInt / 2 ^ n := by
  show (x.toBitVec.sshiftRight (((iZ n).toInt64 &&& 63).toBitVec.smod 64).toNat).toInt = _
  rw [lZ_sh ⟨n, hn⟩, BitVec.toInt_sshiftRight, Int.shiftRight_eq_div_pow, Int.natCast_pow]
  rfl
section ZLONG
variable {p : Program} {l : Launch} {e : Env} {R : Room} {s : State} {m : MethodId} {args : Array Value} {below : List Frame} {meth : Method} {c : Code} {H : Heap} {locs : List Loc} {cells slots : Nat} {Q : State → Prop}
variable {cc : ByteArray} {pc : Nat} {ls : Array Slot} {rest : List Value} {a : Int} {x : Int64}
theorem z_lshr (hx : p.tables.exec = Jvm.exec) (hb : c.code = cc) (hdg : decode cc pc = .ok (.lshr, 1)) (n : Nat) (h : a = n ∧ n < 64)
    (k : ∀ v : Int64, v.toInt = x.toInt / 2 ^ n → W p l e R s m args below meth c H locs cells slots Q (F0 m (pc + 1) ls (.long v :: rest))) : W p l e R s m args below meth c H locs cells slots Q (F0 m pc ls (.int (iZ a) :: .long x :: rest)) := by
  obtain ⟨rfl, h2⟩ := h
  exact lv_lshr hx hb hdg rfl (k _ (lZ_shr x h2))
theorem z_l2i (hx : p.tables.exec = Jvm.exec) (hb : c.code = cc) (hdg : decode cc pc = .ok (.l2i, 1))
    (k : W p l e R s m args below meth c H locs cells slots Q (F0 m (pc + 1) ls (.int (iZ x.toInt) :: rest))) : W p l e R s m args below meth c H locs cells slots Q (F0 m pc ls (.long x :: rest)) := lv_l2i hx hb hdg rfl k
theorem z_tableOut (hx : p.tables.exec = Jvm.exec) (hb : c.code = cc) {dflt lo hi : Int} {offs : Array Int} {len tgt : Nat} (hdg : decode cc pc = .ok (.tableswitch dflt lo hi offs, len)) (hr : zr a) (h : a < lo ∨ hi < a) (ht : (pc : Int) + dflt = (tgt : Int))
    (k : W p l e R s m args below meth c H locs cells slots Q (F0 m tgt ls rest)) : W p l e R s m args below meth c H locs cells slots Q (F0 m pc ls (.int (iZ a) :: rest)) := lv_tableOut hx hb hdg (by rw [iZ_toInt hr.1 hr.2]; exact h) ht k
theorem z_tableIn (hx : p.tables.exec = Jvm.exec) (hb : c.code = cc) {dflt lo hi : Int} {offs : Array Int} {len tgt : Nat} {off : Int} (hdg : decode cc pc = .ok (.tableswitch dflt lo hi offs, len)) (v : Int) (h : a = v) (hr : zr v) (h1 : ¬ v < lo) (h2 : ¬ hi < v) (ho : offs[(v - lo).toNat]? = some off) (ht : (pc : Int) + off = (tgt : Int))
    (k : W p l e R s m args below meth c H locs cells slots Q (F0 m tgt ls rest)) : W p l e R s m args below meth c H locs cells slots Q (F0 m pc ls (.int (iZ a) :: rest)) := by
  subst h
  exact lv_tableIn hx hb hdg (by rw [iZ_toInt hr.1 hr.2]; exact h1) (by rw [iZ_toInt hr.1 hr.2]; exact h2) (by rw [iZ_toInt hr.1 hr.2]; exact ho) ht k
end ZLONG
/-- a byte of a long -/
def wbyte (x : Int64) (i : Nat) : Int := (x.toInt / 2 ^ (8 * i)) % 256
theorem wbyte_lo (x : Int64) (i : Nat) : 0 ≤ wbyte x i := by unfold wbyte; omega
theorem wbyte_hi (x : Int64) (i : Nat) : wbyte x i < 256 := by unfold wbyte; omega
section ZNEW
variable {p : Program} {l : Launch} {e : Env} {R : Room} {s : State} {m : MethodId} {args : Array Value} {below : List Frame} {meth : Method} {c : Code} {H : Heap} {locs : List Loc} {cells slots : Nat} {Q : State → Prop}
variable {cc : ByteArray} {pc : Nat} {ls : Array Slot} {rest : List Value} {D : va_G} {cl : List vw_C} {A : Nat → Prop} {tys : List (ClassId × FieldType)} {ws : va_W} {H0 : Heap} {a : Int}
theorem z_RA {U : State} {cA cB : ClassId} {ty : FieldType} (hp : refKind ty = false) (h1 : va_RA U cA ty) (h2 : va_RA U cB ty) : cA = cB := by
  cases ty <;> first | (simp [refKind] at hp; done) | exact Option.some.inj ((show U.vm.findClass _ = some cA from h1).symm.trans (show U.vm.findClass _ = some cB from h2))
theorem z_newa (hx : p.tables.exec = Jvm.exec) (hb : c.code = cc) {atype : ArrayType} (harr : (Cond.arrayClass (newarray.typeOf atype)).before args s = true) {ty : FieldType} (hty : newarray.typeOf atype = ty) (hp : refKind ty = false) (hd : defaultValue ty = .int (iZ 0)) (hK : va_K D cl tys s) (hP : va_P D cl ws H) (hD : va_D A ws) (hS : va_S A H0 H locs) (hA : ∀ q, H0.size ≤ q → A q)
    (t0 : Nat) {cI : ClassId} (ht : tys[t0]? = some (cI, ty)) (N : Nat) (hn : a = N ∧ N < 1000000) (hcells : cells + 1 ≤ R.cells) (hslots : slots + N ≤ R.slots) (hdg : decode cc pc = .ok (.newarray atype, 2))
    (kk : ∀ (q : Nat) (H1 : Heap), va_P D cl (ws ++ [(q, .inl (cI, N, .inl (zA (fun _ => 0))))]) H1 → va_D A (ws ++ [(q, .inl (cI, N, .inl (zA (fun _ => 0))))]) → va_S A H0 H1 locs →
      W p l e R s m args below meth c H1 locs (cells + 1) (slots + N) Q (F0 m (pc + 2) ls (.ref q :: rest))) : W p l e R s m args below meth c H locs cells slots Q (F0 m pc ls (.int (iZ a) :: rest)) := by
  obtain ⟨rfl, hN⟩ := hn
  have hb8 : componentBytes ty ≤ 8 := by cases ty <;> simp [componentBytes]
  refine va_newa hx hb harr hty hK hP hD hS hA (N' := N) (a0 := (N, .inl (zA (fun _ => 0)))) (fun cA => ?_) ?_ ?_ ?_ hcells hslots hdg (fun q cA H1 hK1 hP1 hD1 hS1 => ?_)
  · rw [vp_cell_i, hd]
    rfl
  · intro h
    exact absurd ((iZ_lt ⟨by omega, by omega⟩ zr_0).mp h) (by omega)
  · rw [iZ_cl (by omega) (by omega)]
    rfl
  · have := Nat.mul_le_mul (Nat.le_of_lt hN) hb8
    omega
  · have e1 : va_RA s cA ty := (hK1.2 tys.length (cA, ty) (by simp)).2
    have e2 : va_RA s cI ty := (hK.2 t0 (cI, ty) ht).2
    obtain rfl := z_RA hp e1 e2
    exact kk q H1 hP1 hD1 hS1
end ZNEW
section ZDET
variable {p : Program} {l : Launch} {e : Env} {R : Room} {s : State} {m : MethodId} {args : Array Value} {below : List Frame} {meth : Method} {c : Code} {H : Heap} {locs : List Loc} {cells slots : Nat} {Q : State → Prop}
variable {D : va_G} {cl : List vw_C} {ws wc wr : va_W} {A : Nat → Prop} {H0 : Heap} {pc mc ms : Nat} {ls : Array Slot} {rest st0 : List Value} {a : Array Value} {S : Type}
/-- a call whose answer is known -/
theorem z_backe {v : Int} (hr : va_Run p l e R s m args below meth c H locs cells slots 0 0 (F0 m pc ls st0) rest (zSi (fun z => z = v) a) (fun _ => False))
    (kk : W p l e R s m args below meth c H locs cells slots Q (F0 m (pc + 3) ls (.int (iZ v) :: rest))) : W p l e R s m args below meth c H locs cells slots Q (F0 m pc ls st0) :=
  z_backr hr (fun _ hz => hz ▸ kk)
theorem z_backie {v : Int} {w1 : S → va_W} (hP : va_P D cl ws H) (hD : va_D A ws) (hS : va_S A H0 H locs) (hA : ∀ q, H0.size ≤ q → A q) (isC isR : List Nat) (hC : isC.map (fun i => ws[i]?) = wc.map some) (hR : isR.map (fun i => ws[i]?) = wr.map some) (hn : va_nd isR = true) (hdis : ∀ i ∈ isR, i ∉ isC)
    (hr : va_Run p l e R s m args below meth c H locs cells slots mc ms (F0 m pc ls st0) rest (zFi D cl (fun z _ => z = v) w1 (va_A wc H.size) a) (va_A wc H.size))
    (kk : ∀ (u : S) (H1 : Heap) (locs1 : List Loc), va_P D cl (wr ++ w1 u) H1 → va_D A (wr ++ w1 u) → va_S A H0 H1 locs1 → W p l e R s m args below meth c H1 locs1 (cells + mc) (slots + ms) Q (F0 m (pc + 3) ls (.int (iZ v) :: rest))) : W p l e R s m args below meth c H locs cells slots Q (F0 m pc ls st0) :=
  z_backi hP hD hS hA isC isR hC hR hn hdis hr (fun _ u H1 locs1 hz h1 h2 h3 => hz ▸ kk u H1 locs1 h1 h2 h3)
end ZDET
theorem i_Row_0 : u_lay R_Row F_Row 0 ∈ zT := zT_of (List.mem_of_getElem? (i := 67) (by decide +kernel)) rfl
theorem i_Row_1 : u_lay R_Row F_Row 1 ∈ zT := zT_of (List.mem_of_getElem? (i := 69) (by decide +kernel)) rfl
theorem i_Row_2 : u_lay R_Row F_Row 2 ∈ zT := zT_of (List.mem_of_getElem? (i := 71) (by decide +kernel)) rfl
theorem i_Row_3 : u_lay R_Row F_Row 3 ∈ zT := zT_of (List.mem_of_getElem? (i := 73) (by decide +kernel)) rfl
theorem i_Row_4 : u_lay R_Row F_Row 4 ∈ zT := zT_of (List.mem_of_getElem? (i := 75) (by decide +kernel)) rfl
theorem i_Row_5 : u_lay R_Row F_Row 5 ∈ zT := zT_of (List.mem_of_getElem? (i := 77) (by decide +kernel)) rfl
theorem i_Row_6 : u_lay R_Row F_Row 6 ∈ zT := zT_of (List.mem_of_getElem? (i := 79) (by decide +kernel)) rfl
theorem i_Row : ∀ w ∈ u_ws R_Row F_Row 7, w ∈ zT := by
  intro w hw
  obtain ⟨k, hk, rfl⟩ := List.mem_map.mp hw
  have hk := List.mem_range.mp hk
  rcases (show k = 0 ∨ k = 1 ∨ k = 2 ∨ k = 3 ∨ k = 4 ∨ k = 5 ∨ k = 6 by omega) with rfl | rfl | rfl | rfl | rfl | rfl | rfl
  · exact i_Row_0
  · exact i_Row_1
  · exact i_Row_2
  · exact i_Row_3
  · exact i_Row_4
  · exact i_Row_5
  · exact i_Row_6
theorem i_Share_0 : u_lay R_Share F_Share 0 ∈ zT := zT_of (List.mem_of_getElem? (i := 98) (by decide +kernel)) rfl
theorem i_Share_1 : u_lay R_Share F_Share 1 ∈ zT := zT_of (List.mem_of_getElem? (i := 100) (by decide +kernel)) rfl
theorem i_Share_2 : u_lay R_Share F_Share 2 ∈ zT := zT_of (List.mem_of_getElem? (i := 102) (by decide +kernel)) rfl
theorem i_Share_3 : u_lay R_Share F_Share 3 ∈ zT := zT_of (List.mem_of_getElem? (i := 104) (by decide +kernel)) rfl
theorem i_Share_4 : u_lay R_Share F_Share 4 ∈ zT := zT_of (List.mem_of_getElem? (i := 106) (by decide +kernel)) rfl
theorem i_Share_5 : u_lay R_Share F_Share 5 ∈ zT := zT_of (List.mem_of_getElem? (i := 108) (by decide +kernel)) rfl
theorem i_Share_6 : u_lay R_Share F_Share 6 ∈ zT := zT_of (List.mem_of_getElem? (i := 110) (by decide +kernel)) rfl
theorem i_Share_7 : u_lay R_Share F_Share 7 ∈ zT := zT_of (List.mem_of_getElem? (i := 112) (by decide +kernel)) rfl
theorem i_Share : ∀ w ∈ u_ws R_Share F_Share 8, w ∈ zT := by
  intro w hw
  obtain ⟨k, hk, rfl⟩ := List.mem_map.mp hw
  have hk := List.mem_range.mp hk
  rcases (show k = 0 ∨ k = 1 ∨ k = 2 ∨ k = 3 ∨ k = 4 ∨ k = 5 ∨ k = 6 ∨ k = 7 by omega) with rfl | rfl | rfl | rfl | rfl | rfl | rfl | rfl
  · exact i_Share_0
  · exact i_Share_1
  · exact i_Share_2
  · exact i_Share_3
  · exact i_Share_4
  · exact i_Share_5
  · exact i_Share_6
  · exact i_Share_7
theorem i_CountsRule_0 : u_lay R_CountsRule F_CountsRule 0 ∈ zT := zT_of (List.mem_of_getElem? (i := 124) (by decide +kernel)) rfl
theorem i_CountsRule_1 : u_lay R_CountsRule F_CountsRule 1 ∈ zT := zT_of (List.mem_of_getElem? (i := 126) (by decide +kernel)) rfl
theorem i_CountsRule_2 : u_lay R_CountsRule F_CountsRule 2 ∈ zT := zT_of (List.mem_of_getElem? (i := 128) (by decide +kernel)) rfl
theorem i_CountsRule : ∀ w ∈ u_ws R_CountsRule F_CountsRule 3, w ∈ zT := by
  intro w hw
  obtain ⟨k, hk, rfl⟩ := List.mem_map.mp hw
  have hk := List.mem_range.mp hk
  rcases (show k = 0 ∨ k = 1 ∨ k = 2 by omega) with rfl | rfl | rfl
  · exact i_CountsRule_0
  · exact i_CountsRule_1
  · exact i_CountsRule_2
theorem i_SC_0 : u_lay R_SC F_SC 0 ∈ zT := zT_of (List.mem_of_getElem? (i := 139) (by decide +kernel)) rfl
theorem i_SC_1 : u_lay R_SC F_SC 1 ∈ zT := zT_of (List.mem_of_getElem? (i := 141) (by decide +kernel)) rfl
theorem i_SC_2 : u_lay R_SC F_SC 2 ∈ zT := zT_of (List.mem_of_getElem? (i := 143) (by decide +kernel)) rfl
theorem i_SC_3 : u_lay R_SC F_SC 3 ∈ zT := zT_of (List.mem_of_getElem? (i := 145) (by decide +kernel)) rfl
theorem i_SC_4 : u_lay R_SC F_SC 4 ∈ zT := zT_of (List.mem_of_getElem? (i := 147) (by decide +kernel)) rfl
theorem i_SC_5 : u_lay R_SC F_SC 5 ∈ zT := zT_of (List.mem_of_getElem? (i := 149) (by decide +kernel)) rfl
theorem i_SC_6 : u_lay R_SC F_SC 6 ∈ zT := zT_of (List.mem_of_getElem? (i := 151) (by decide +kernel)) rfl
theorem i_SC_7 : u_lay R_SC F_SC 7 ∈ zT := zT_of (List.mem_of_getElem? (i := 153) (by decide +kernel)) rfl
theorem i_SC : ∀ w ∈ u_ws R_SC F_SC 8, w ∈ zT := by
  intro w hw
  obtain ⟨k, hk, rfl⟩ := List.mem_map.mp hw
  have hk := List.mem_range.mp hk
  rcases (show k = 0 ∨ k = 1 ∨ k = 2 ∨ k = 3 ∨ k = 4 ∨ k = 5 ∨ k = 6 ∨ k = 7 by omega) with rfl | rfl | rfl | rfl | rfl | rfl | rfl | rfl
  · exact i_SC_0
  · exact i_SC_1
  · exact i_SC_2
  · exact i_SC_3
  · exact i_SC_4
  · exact i_SC_5
  · exact i_SC_6
  · exact i_SC_7
theorem i_Mod_0 : u_lay R_Mod F_Mod 0 ∈ zT := zT_of (List.mem_of_getElem? (i := 496) (by decide +kernel)) rfl
theorem i_Mod_1 : u_lay R_Mod F_Mod 1 ∈ zT := zT_of (List.mem_of_getElem? (i := 498) (by decide +kernel)) rfl
theorem i_Mod_2 : u_lay R_Mod F_Mod 2 ∈ zT := zT_of (List.mem_of_getElem? (i := 500) (by decide +kernel)) rfl
theorem i_Mod_3 : u_lay R_Mod F_Mod 3 ∈ zT := zT_of (List.mem_of_getElem? (i := 502) (by decide +kernel)) rfl
theorem i_Mod_4 : u_lay R_Mod F_Mod 4 ∈ zT := zT_of (List.mem_of_getElem? (i := 504) (by decide +kernel)) rfl
theorem i_Mod_5 : u_lay R_Mod F_Mod 5 ∈ zT := zT_of (List.mem_of_getElem? (i := 506) (by decide +kernel)) rfl
theorem i_Mod_6 : u_lay R_Mod F_Mod 6 ∈ zT := zT_of (List.mem_of_getElem? (i := 508) (by decide +kernel)) rfl
theorem i_Mod_7 : u_lay R_Mod F_Mod 7 ∈ zT := zT_of (List.mem_of_getElem? (i := 510) (by decide +kernel)) rfl
theorem i_Mod_8 : u_lay R_Mod F_Mod 8 ∈ zT := zT_of (List.mem_of_getElem? (i := 512) (by decide +kernel)) rfl
theorem i_Mod_9 : u_lay R_Mod F_Mod 9 ∈ zT := zT_of (List.mem_of_getElem? (i := 514) (by decide +kernel)) rfl
theorem i_Mod_10 : u_lay R_Mod F_Mod 10 ∈ zT := zT_of (List.mem_of_getElem? (i := 516) (by decide +kernel)) rfl
theorem i_Mod_11 : u_lay R_Mod F_Mod 11 ∈ zT := zT_of (List.mem_of_getElem? (i := 518) (by decide +kernel)) rfl
theorem i_Mod_12 : u_lay R_Mod F_Mod 12 ∈ zT := zT_of (List.mem_of_getElem? (i := 520) (by decide +kernel)) rfl
theorem i_Mod_13 : u_lay R_Mod F_Mod 13 ∈ zT := zT_of (List.mem_of_getElem? (i := 522) (by decide +kernel)) rfl
theorem i_Mod : ∀ w ∈ u_ws R_Mod F_Mod 14, w ∈ zT := by
  intro w hw
  obtain ⟨k, hk, rfl⟩ := List.mem_map.mp hw
  have hk := List.mem_range.mp hk
  rcases (show k = 0 ∨ k = 1 ∨ k = 2 ∨ k = 3 ∨ k = 4 ∨ k = 5 ∨ k = 6 ∨ k = 7 ∨ k = 8 ∨ k = 9 ∨ k = 10 ∨ k = 11 ∨ k = 12 ∨ k = 13 by omega) with rfl | rfl | rfl | rfl | rfl | rfl | rfl | rfl | rfl | rfl | rfl | rfl | rfl | rfl
  · exact i_Mod_0
  · exact i_Mod_1
  · exact i_Mod_2
  · exact i_Mod_3
  · exact i_Mod_4
  · exact i_Mod_5
  · exact i_Mod_6
  · exact i_Mod_7
  · exact i_Mod_8
  · exact i_Mod_9
  · exact i_Mod_10
  · exact i_Mod_11
  · exact i_Mod_12
  · exact i_Mod_13
end
section
/-- how many of N bytes a row holds -/
def cap (N : Nat) : Nat := min N 6000
theorem cap_spec (N : Nat) : (N ≤ 6000 ∧ cap N = N) ∨ (6000 < N ∧ cap N = 6000) := by
  unfold cap
  rcases Nat.lt_or_ge 6000 N with h | h
  · exact Or.inr ⟨h, Nat.min_eq_right (Nat.le_of_lt h)⟩
  · exact Or.inl ⟨h, Nat.min_eq_left h⟩
/-! a row that bits are put behind: V, of B bits, is what was put; N bytes of it stand in the row (or would) -/
def rI (V B N : Nat) (L hd hn ov : Int) (f : Nat → Int) : Prop :=
  V < 2 ^ B ∧ 8 * N ≤ B ∧ hn = ((B - 8 * N : Nat) : Int) ∧ hd = ((V / 2 ^ (8 * N) : Nat) : Int) ∧ L = (cap N : Int) ∧ ov = (if N ≤ 6000 then 0 else 1) ∧ (∀ k, k < cap N → f k % 256 = ((V / 2 ^ (8 * k) % 256 : Nat) : Int)) ∧ ∀ k, -128 ≤ f k ∧ f k < 128
theorem rI_put {V B N x n : Nat} {L hd hn ov : Int} {f : Nat → Int} (h : rI V B N L hd hn ov f) (hx : x < 2 ^ n) : rI (V + x * 2 ^ B) (B + n) N L (hd + (x : Int) * 2 ^ (B - 8 * N)) (hn + n) ov f := by
  obtain ⟨h1, h2, h3, h4, h5, h6, h7, h8⟩ := h
  refine ⟨?_, by omega, by rw [h3]; omega, ?_, h5, h6, ?_, h8⟩
  · have e : (x + 1) * 2 ^ B ≤ 2 ^ n * 2 ^ B := Nat.mul_le_mul_right _ hx
    rw [Nat.add_mul, Nat.one_mul] at e
    rw [Nat.pow_add, Nat.mul_comm (2 ^ B)]
    omega
  · have e : 2 ^ B = 2 ^ (8 * N) * 2 ^ (B - 8 * N) := by rw [← Nat.pow_add]; congr 1; omega
    have e2 : V + x * 2 ^ B = V + 2 ^ (8 * N) * (x * 2 ^ (B - 8 * N)) := by rw [e, Nat.mul_left_comm]
    rw [h4, e2, Nat.add_mul_div_left _ _ (Nat.pow_pos (by decide)), Int.natCast_add, Int.natCast_mul, Int.natCast_pow]
    rfl
  · intro k hk
    have hc := cap_spec N
    have hk2 : 8 * k + 8 ≤ B := by omega
    have e : 2 ^ B = 2 ^ (8 * k) * (256 * 2 ^ (B - 8 * k - 8)) := by
      rw [show (256 : Nat) = 2 ^ 8 from rfl, ← Nat.pow_add, ← Nat.pow_add]; congr 1; omega
    have e2 : V + x * 2 ^ B = V + 2 ^ (8 * k) * (256 * (x * 2 ^ (B - 8 * k - 8))) := by
      rw [e, Nat.mul_left_comm, Nat.mul_left_comm x 256]
    rw [h7 k hk, e2, Nat.add_mul_div_left _ _ (Nat.pow_pos (by decide)), Nat.add_mul_mod_self_left]
def rAdd (L ov : Int) (f : Nat → Int) (b : Int) (L' ov' : Int) (f' : Nat → Int) : Prop := (L < 6000 ∧ L' = L + 1 ∧ ov' = ov ∧ f' = zu f L.toNat (b.bmod 256)) ∨ (6000 ≤ L ∧ L' = L ∧ ov' = 1 ∧ f' = f)
theorem rI_hd {V B N : Nat} {L hd hn ov : Int} {f : Nat → Int} (h : rI V B N L hd hn ov f) : 0 ≤ hd ∧ hd < 2 ^ (B - 8 * N) ∧ 0 ≤ hn ∧ 0 ≤ L ∧ L ≤ 6000 := by
  obtain ⟨h1, h2, h3, h4, h5, h6, h7, h8⟩ := h
  have hc := cap_spec N
  refine ⟨by rw [h4]; exact Int.natCast_nonneg _, ?_, by omega, by omega, by omega⟩
  have e : 2 ^ B = 2 ^ (B - 8 * N) * 2 ^ (8 * N) := by rw [← Nat.pow_add]; congr 1; omega
  have e2 : V / 2 ^ (8 * N) < 2 ^ (B - 8 * N) := (Nat.div_lt_iff_lt_mul (Nat.pow_pos (by decide))).mpr (by rw [← e]; exact h1)
  rw [h4]
  have e3 : ((2 ^ (B - 8 * N) : Nat) : Int) = 2 ^ (B - 8 * N) := by rw [Int.natCast_pow]; rfl
  rw [← e3]
  omega
theorem rI_step {V B N : Nat} {L hd hn ov L' ov' : Int} {f f' : Nat → Int} (h : rI V B N L hd hn ov f) (hn8 : 8 ≤ hn) (ha : rAdd L ov f (hd % 256) L' ov' f') : rI V B (N + 1) L' (hd / 256) (hn - 8) ov' f' := by
  obtain ⟨h1, h2, h3, h4, h5, h6, h7, h8⟩ := h
  have ed : hd / 256 = ((V / 2 ^ (8 * (N + 1)) : Nat) : Int) := by
    rw [h4, show 8 * (N + 1) = 8 * N + 8 by omega, Nat.pow_add, ← Nat.div_div_eq_div_mul, Int.natCast_ediv]
    rfl
  have em : hd % 256 = ((V / 2 ^ (8 * N) % 256 : Nat) : Int) := by rw [h4, Int.natCast_emod]; rfl
  have hc := cap_spec N
  have hc1 := cap_spec (N + 1)
  rcases ha with ⟨a1, rfl, rfl, rfl⟩ | ⟨a1, rfl, rfl, rfl⟩
  · have hN : N < 6000 := by omega
    refine ⟨h1, by omega, by omega, ed, by omega, ?_, ?_, ?_⟩
    · rw [h6, if_pos (by omega), if_pos (by omega)]
    · intro k hk
      by_cases hkN : k = N
      · subst hkN
        rw [show L.toNat = k by omega, zu_s, iZ_bmod, em]
        omega
      · rw [zu_n (by omega)]
        exact h7 k (by omega)
    · intro k
      by_cases hk : k = L.toNat
      · subst hk
        rw [zu_s]
        exact ⟨bm_lo _, bm_hi _⟩
      · rw [zu_n hk]
        exact h8 k
  · have hN : 6000 ≤ N := by omega
    refine ⟨h1, by omega, by omega, ed, by omega, ?_, ?_, h8⟩
    · rw [if_neg (by omega)]
    · intro k hk
      exact h7 k (by omega)
theorem rI_done {V B N : Nat} {L hd hn ov : Int} {f : Nat → Int} (h : rI V B N L hd hn ov f) (h8 : hn < 8) : N = B / 8 := by
  obtain ⟨h1, h2, h3, h4, h5, h6, h7, h8⟩ := h
  omega
/-- byte k of a row of L bytes, 0 outside -/
def rb8 (f : Nat → Int) (L k : Int) : Int := if 0 ≤ k ∧ k < L then f k.toNat % 256 else 0
theorem rb8_lo (f : Nat → Int) (L k : Int) : 0 ≤ rb8 f L k := by unfold rb8; split <;> omega
theorem rb8_hi (f : Nat → Int) (L k : Int) : rb8 f L k < 256 := by unfold rb8; split <;> omega
def rNum (f : Nat → Int) (L a b : Int) (n : Nat) : Int := ((rb8 f L (a + b / 8) + rb8 f L (a + b / 8 + 1) * 256 + rb8 f L (a + b / 8 + 2) * 65536) / 2 ^ (b % 8).toNat) % 2 ^ n
/-- the greatest k with 2^k not above x -/
def zlog (x : Int) : Nat := Nat.log2 x.toNat
theorem zlog_lo {x : Int} (h : 0 < x) : (2 : Int) ^ zlog x ≤ x := by
  have h1 := Nat.log2_self_le (n := x.toNat) (by omega)
  have e : ((2 ^ zlog x : Nat) : Int) = 2 ^ zlog x := by rw [Int.natCast_pow]; rfl
  rw [← e]
  unfold zlog
  omega
theorem zlog_hi (x : Int) : x < (2 : Int) ^ (zlog x + 1) := by
  have h1 := Nat.lt_log2_self (n := x.toNat)
  have e : ((2 ^ (zlog x + 1) : Nat) : Int) = 2 ^ (zlog x + 1) := by rw [Int.natCast_pow]; rfl
  rw [← e]
  unfold zlog
  omega
theorem zlog_is {x : Int} {k : Nat} (h1 : (2 : Int) ^ k ≤ x) (h2 : x < (2 : Int) ^ (k + 1)) : zlog x = k := by
  have e : ((2 ^ k : Nat) : Int) = 2 ^ k := by rw [Int.natCast_pow]; rfl
  have e2 : ((2 ^ (k + 1) : Nat) : Int) = 2 ^ (k + 1) := by rw [Int.natCast_pow]; rfl
  have hp : 0 < 2 ^ k := Nat.pow_pos (by decide)
  rw [← e] at h1
  rw [← e2] at h2
  exact (Nat.log2_eq_iff (by omega)).mpr ⟨by omega, by omega⟩
/-- a symbol's weight -/
def wgt (p : Int) : Int := if p = -1 then 1 else p
theorem p2_le {k m : Nat} (h : k ≤ m) : (2 : Int) ^ k ≤ 2 ^ m := by
  have := Nat.pow_le_pow_right (n := 2) (by decide) h
  have e : ((2 ^ k : Nat) : Int) = 2 ^ k := by rw [Int.natCast_pow]; rfl
  have e2 : ((2 ^ m : Nat) : Int) = 2 ^ m := by rw [Int.natCast_pow]; rfl
  rw [← e, ← e2]
  omega
theorem rI_small {V B N : Nat} {L hd hn ov : Int} {f : Nat → Int} (h : rI V B N L hd hn ov f) (h20 : hn ≤ 20) : hd < 1048576 := by
  have h1 := rI_hd h
  have h3 := h.2.2.1
  have := p2_le (k := B - 8 * N) (m := 20) (by omega)
  omega
theorem rI_or {V B x n : Nat} {L hd hn ov : Int} {f : Nat → Int} (h : rI V B (B / 8) L hd hn ov f) (hx : x < 2 ^ n) (hn13 : n ≤ 13) : 0 ≤ hd ∧ hd < 2 ^ (B - 8 * (B / 8)) ∧ 0 ≤ (x : Int) ∧ hd + (x : Int) * 2 ^ (B - 8 * (B / 8)) < 4294967296 := by
  have h1 := rI_hd h
  refine ⟨h1.1, h1.2.1, by omega, ?_⟩
  have h3 := h.2.2.1
  have h2 := rI_hd (rI_put h hx)
  have := rI_small (rI_put h hx) (by omega)
  omega
theorem rI_same {V B : Nat} {L hd hn ov : Int} {f : Nat → Int} (h : rI V B (B / 8) L hd hn ov f) (h0 : hn ≤ 0) : rI V (8 * ((B + 7) / 8)) ((B + 7) / 8) L hd hn ov f := by
  have h3 := h.2.2.1
  have e1 : 8 * ((B + 7) / 8) = B := by omega
  have e2 : (B + 7) / 8 = B / 8 := by omega
  rw [e1, e2]
  exact h
theorem rI_pad {V B : Nat} {L hd hn ov : Int} {f : Nat → Int} (h : rI (V + 0 * 2 ^ B) (B + (8 - B % 8)) ((B + (8 - B % 8)) / 8) L hd hn ov f) (h0 : 0 < B % 8) : rI V (8 * ((B + 7) / 8)) ((B + 7) / 8) L hd hn ov f := by
  have e1 : B + (8 - B % 8) = 8 * ((B + 7) / 8) := by omega
  have e2 : (B + (8 - B % 8)) / 8 = (B + 7) / 8 := by omega
  rw [e2, e1, Nat.zero_mul, Nat.add_zero] at h
  exact h
theorem p2_pos (o : Nat) : (0 : Int) < 2 ^ o := Int.pow_pos (by decide)
/-- writing a long's bytes: d of n are left -/
def wrI (f f2 : Nat → Int) (L L2 n : Int) (d : Nat) (x : Int64) : Prop := (0 ≤ L ∧ L2 = L + n - d ∧ L + n ≤ 6000 ∧ 0 ≤ n ∧ (d : Int) ≤ n) ∧ (∀ k, -128 ≤ f2 k ∧ f2 k < 128) ∧ (∀ k : Nat, (k : Int) < L → f2 k = f k) ∧ ∀ j : Nat, (j : Int) < n - d → f2 (L.toNat + j) % 256 = wbyte x (n - 1 - j).toNat
theorem wrI_0 {f : Nat → Int} {L n : Int} {x : Int64} (h1 : 1 ≤ n) (h2 : 0 ≤ L) (h3 : L + n ≤ 6000) (hf : ∀ k, -128 ≤ f k ∧ f k < 128) : wrI f f L L n n.toNat x :=
  ⟨by omega, hf, fun _ _ => rfl, fun j hj => absurd hj (by omega)⟩
theorem wrI_s {f f2 f3 : Nat → Int} {L L2 L3 n ov ov3 : Int} {d : Nat} {x : Int64} (h : wrI f f2 L L2 n d x) (h1 : 1 ≤ n) (hd : 1 ≤ d) (ha : rAdd L2 ov f2 (wbyte x (d - 1)) L3 ov3 f3) : wrI f f3 L L3 n (d - 1) x := by
  obtain ⟨a, b, c, e⟩ := h
  rcases ha with ⟨q1, q2, q3, rfl⟩ | ⟨q1, _⟩
  · refine ⟨by omega, fun k => ?_, fun k hk => ?_, fun j hj => ?_⟩
    · by_cases hk : k = L2.toNat
      · subst hk
        rw [zu_s]
        exact ⟨bm_lo _, bm_hi _⟩
      · rw [zu_n hk]
        exact b k
    · rw [zu_n (by omega)]
      exact c k hk
    · by_cases hj2 : (j : Int) < n - d
      · rw [zu_n (by omega)]
        exact e j hj2
      · rw [show L.toNat + j = L2.toNat by omega, zu_s, iZ_bmod, show (n - 1 - (j : Int)).toNat = d - 1 by omega]
        have := wbyte_lo x (d - 1)
        have := wbyte_hi x (d - 1)
        omega
  · omega
theorem wrI_end {f f2 : Nat → Int} {L L2 n ov ov2 : Int} {d : Nat} {x : Int64} (h : wrI f f2 L L2 n d x) (hd : d = 0) (ho : ov2 = ov) : L2 = L + n ∧ ov2 = ov ∧ (∀ k, -128 ≤ f2 k ∧ f2 k < 128) ∧ (∀ k : Nat, (k : Int) < L → f2 k = f k) ∧ ∀ j : Nat, (j : Int) < n → f2 (L.toNat + j) % 256 = wbyte x (n - 1 - j).toNat := by
  subst hd
  obtain ⟨a, b, c, e⟩ := h
  exact ⟨by omega, ho, b, c, fun j hj => e j (by omega)⟩
def cellAns (o : Nat) (gS gB gA : Nat → Int) (k x : Int) : Int := if 0 < o ∧ 0 ≤ k ∧ k < 2 ^ o then (if x = 0 then gS k.toNat else if x = 1 then gB k.toNat else if x = 2 then gA k.toNat else -1) else -1
theorem cellAns_no {o : Nat} {gS gB gA : Nat → Int} {k x : Int} (h : o = 0 ∨ k < 0 ∨ 2 ^ o ≤ k) : cellAns o gS gB gA k x = -1 := if_neg (by omega)
theorem cellAns_0 {o : Nat} {gS gB gA : Nat → Int} {k x : Int} (h : 0 < o ∧ 0 ≤ k ∧ k < 2 ^ o) (hx : x = 0) : cellAns o gS gB gA k x = gS k.toNat := by
  unfold cellAns; rw [if_pos h, if_pos hx]
theorem cellAns_1 {o : Nat} {gS gB gA : Nat → Int} {k x : Int} (h : 0 < o ∧ 0 ≤ k ∧ k < 2 ^ o) (hx : x = 1) : cellAns o gS gB gA k x = gB k.toNat := by
  unfold cellAns; rw [if_pos h, if_neg (by omega), if_pos hx]
theorem cellAns_2 {o : Nat} {gS gB gA : Nat → Int} {k x : Int} (h : 0 < o ∧ 0 ≤ k ∧ k < 2 ^ o) (hx : x = 2) : cellAns o gS gB gA k x = gA k.toNat := by
  unfold cellAns; rw [if_pos h, if_neg (by omega), if_neg (by omega), if_pos hx]
theorem cellAns_x {o : Nat} {gS gB gA : Nat → Int} {k x : Int} (hx : x < 0 ∨ 2 < x) : cellAns o gS gB gA k x = -1 := by
  unfold cellAns
  split
  · rw [if_neg (by omega), if_neg (by omega), if_neg (by omega)]
  · rfl
/-! the numbers of a written share -/
def numK (R : Int) : Nat := zlog (R + 1)
def numT (R : Int) : Int := 2 ^ numK R
def numM (R : Int) : Int := 2 * numT R - 2 - R
theorem numK_lt {R : Int} (h0 : 0 ≤ R) (h : R ≤ 100000) : numK R < 17 := by
  rcases Nat.lt_or_ge (numK R) 17 with q | q
  · exact q
  · have h1 := zlog_lo (x := R + 1) (by omega)
    have h2 := p2_le q
    unfold numK at h2
    omega
theorem numK_le {R : Int} (h0 : 1 ≤ R) (h : R ≤ 4096) : numK R ≤ 12 := by
  rcases Nat.lt_or_ge (numK R) 13 with q | q
  · omega
  · have h1 := zlog_lo (x := R + 1) (by omega)
    have h2 := p2_le q
    unfold numK at h2
    omega
theorem num_facts {R : Int} (h0 : 1 ≤ R) (h : R ≤ 4096) : numT R ≤ R + 1 ∧ R + 1 < 2 * numT R ∧ 0 ≤ numM R ∧ numM R ≤ numT R - 1 ∧ numT R ≤ 4096 := by
  have h1 := zlog_lo (x := R + 1) (by omega)
  have h2 := zlog_hi (R + 1)
  rw [Int.pow_succ] at h2
  have h3 := p2_le (numK_le h0 h)
  unfold numM numT numK at *
  omega
def numX (R : Int) (v : Nat) : Nat := if (v : Int) < numM R then v else if (v : Int) < numT R then v else v + (numM R).toNat
def numN (R : Int) (v : Nat) : Nat := if (v : Int) < numM R then numK R else numK R + 1
theorem num_cast (R : Int) : ((2 ^ numK R : Nat) : Int) = numT R := by rw [Int.natCast_pow]; rfl
theorem num_x1 {R : Int} {v : Nat} (h0 : 1 ≤ R) (h : R ≤ 4096) (hv : (v : Int) < numM R) : v < 2 ^ numK R := by
  have := num_facts h0 h
  have := num_cast R
  omega
theorem num_x2 {R : Int} {v : Nat} (h0 : 1 ≤ R) (h : R ≤ 4096) (hv : (v : Int) < numT R) : v < 2 ^ (numK R + 1) := by
  have := num_facts h0 h
  have := num_cast R
  rw [Nat.pow_succ]
  omega
theorem num_x3 {R : Int} {v : Nat} (h0 : 1 ≤ R) (h : R ≤ 4096) (hv : (v : Int) ≤ R + 1) : v + (numM R).toNat < 2 ^ (numK R + 1) := by
  have := num_facts h0 h
  have := num_cast R
  have : numM R = 2 * numT R - 2 - R := rfl
  rw [Nat.pow_succ]
  omega
theorem numN_1 {R : Int} {v : Nat} (hv : (v : Int) < numM R) : numN R v = numK R := if_pos hv
theorem numN_2 {R : Int} {v : Nat} (hv : numM R ≤ v) : numN R v = numK R + 1 := if_neg (by omega)
theorem numX_1 {R : Int} {v : Nat} (hv : (v : Int) < numM R) : numX R v = v := if_pos hv
theorem numX_2 {R : Int} {v : Nat} (hv : numM R ≤ v) (h2 : (v : Int) < numT R) : numX R v = v := by unfold numX; rw [if_neg (by omega), if_pos h2]
theorem numX_3 {R : Int} {v : Nat} (hv : numM R ≤ v) (h2 : numT R ≤ v) : numX R v = v + (numM R).toNat := by unfold numX; rw [if_neg (by omega), if_neg (by omega)]
theorem zlog_e30 {x : Int} {k : Nat} (h1 : (2 : Int) ^ k ≤ x) (h : k = 30) (hx : x < 2147483648) : zlog x = k := by
  subst h
  exact zlog_is h1 hx
theorem zlog_ex {x : Int} {k : Nat} (h1 : (2 : Int) ^ k ≤ x) (h : x / 2 ^ (k + 1) ≤ 0) : zlog x = k := by
  refine zlog_is h1 ?_
  rcases (by omega : x < 2 ^ (k + 1) ∨ 2 ^ (k + 1) ≤ x) with q | q
  · exact q
  · have := (Int.le_ediv_iff_mul_le (a := 1) (b := x) (p2_pos (k + 1))).mpr (by omega)
    omega
theorem zlog_nx {x : Int} {k : Nat} (h : 0 < x / 2 ^ (k + 1)) : (2 : Int) ^ (k + 1) ≤ x := by
  have := (Int.le_ediv_iff_mul_le (a := 1) (b := x) (p2_pos (k + 1))).mp (by omega)
  omega
theorem ls_next {gP : Nat → Int} {n : Nat} (h : ∀ k, n < k → k ≤ 255 → gP k = 0) (h0 : gP n = 0) : ∀ k, n - 1 < k → k ≤ 255 → gP k = 0 := by
  intro k a b
  by_cases hk : k = n
  · rw [hk]; exact h0
  · exact h k (by omega) b
theorem wrI_ov {f f2 f3 : Nat → Int} {L L2 L3 n ov ov2 ov3 b : Int} {d : Nat} {x : Int64} (h : wrI f f2 L L2 n d x) (ho : ov2 = ov) (hd : 1 ≤ d) (ha : rAdd L2 ov2 f2 b L3 ov3 f3) : ov3 = ov := by
  have h1 := h.1
  rcases ha with q | q
  · exact q.2.2.1.trans ho
  · omega
theorem fill_0 {g : Nat → Int} {v : Int} : g = fun k => if k < 0 then v else g k := by
  funext k
  rw [if_neg (by omega)]
theorem fill_s {g : Nat → Int} {v : Int} {i : Nat} : zu (fun k => if k < i then v else g k) i v = fun k => if k < i + 1 then v else g k := by
  funext k
  unfold zu
  by_cases h1 : k = i
  · rw [if_pos h1, if_pos (by omega)]
  · rw [if_neg h1]
    show (if k < i then v else g k) = _
    by_cases h2 : k < i
    · rw [if_pos h2, if_pos (by omega)]
    · rw [if_neg h2, if_neg (by omega)]
theorem zlog_le {y : Int} {o : Nat} (h1 : 1 ≤ y) (h2 : y < 2 ^ (o + 1)) : zlog y ≤ o := by
  have a := zlog_lo (x := y) (by omega)
  rcases Nat.lt_or_ge (zlog y) (o + 1) with q | q
  · omega
  · have := p2_le q
    omega
/-- the weights of the symbols below one -/
def cum (gP : Nat → Int) : Nat → Int
  | 0 => 0
  | n + 1 => cum gP n + wgt (gP n)
theorem zu_all {g v : Nat → Int} {i : Nat} {x : Int} (h : ∀ k, k < i → g k = v k) (hx : x = v i) : ∀ k, k < i + 1 → zu g i x k = v k := by
  intro k hk
  by_cases e : k = i
  · subst e
    rw [zu_s]
    exact hx
  · rw [zu_n e]
    exact h k (by omega)
end
section

theorem d_SC_isSymbol_0 : decode b_SC_isSymbol 0 = .ok (.iload_n 0, 1) := by decide +kernel
theorem d_SC_isSymbol_1 : decode b_SC_isSymbol 1 = .ok (.ifCond .lt 14, 3) := by decide +kernel
theorem d_SC_isSymbol_4 : decode b_SC_isSymbol 4 = .ok (.iload_n 0, 1) := by decide +kernel
theorem d_SC_isSymbol_5 : decode b_SC_isSymbol 5 = .ok (.sipush 256, 3) := by decide +kernel
theorem d_SC_isSymbol_8 : decode b_SC_isSymbol 8 = .ok (.if_icmp .ge 7, 3) := by decide +kernel
theorem d_SC_isSymbol_11 : decode b_SC_isSymbol 11 = .ok (.iconst 1, 1) := by decide +kernel
theorem d_SC_isSymbol_12 : decode b_SC_isSymbol 12 = .ok (.goto 4, 3) := by decide +kernel
theorem d_SC_isSymbol_15 : decode b_SC_isSymbol 15 = .ok (.iconst 0, 1) := by decide +kernel
theorem d_SC_isSymbol_16 : decode b_SC_isSymbol 16 = .ok (.ireturn, 1) := by decide +kernel
theorem d_SC_isOrder_0 : decode b_SC_isOrder 0 = .ok (.iload_n 0, 1) := by decide +kernel
theorem d_SC_isOrder_1 : decode b_SC_isOrder 1 = .ok (.iconst 5, 1) := by decide +kernel
theorem d_SC_isOrder_2 : decode b_SC_isOrder 2 = .ok (.if_icmp .lt 13, 3) := by decide +kernel
theorem d_SC_isOrder_5 : decode b_SC_isOrder 5 = .ok (.iload_n 0, 1) := by decide +kernel
theorem d_SC_isOrder_6 : decode b_SC_isOrder 6 = .ok (.bipush 12, 2) := by decide +kernel
theorem d_SC_isOrder_8 : decode b_SC_isOrder 8 = .ok (.if_icmp .gt 7, 3) := by decide +kernel
theorem d_SC_isOrder_11 : decode b_SC_isOrder 11 = .ok (.iconst 1, 1) := by decide +kernel
theorem d_SC_isOrder_12 : decode b_SC_isOrder 12 = .ok (.goto 4, 3) := by decide +kernel
theorem d_SC_isOrder_15 : decode b_SC_isOrder 15 = .ok (.iconst 0, 1) := by decide +kernel
theorem d_SC_isOrder_16 : decode b_SC_isOrder 16 = .ok (.ireturn, 1) := by decide +kernel
theorem d_SC_weight_0 : decode b_SC_weight 0 = .ok (.iload_n 0, 1) := by decide +kernel
theorem d_SC_weight_1 : decode b_SC_weight 1 = .ok (.iconst (-1), 1) := by decide +kernel
theorem d_SC_weight_2 : decode b_SC_weight 2 = .ok (.if_icmp .ne 7, 3) := by decide +kernel
theorem d_SC_weight_5 : decode b_SC_weight 5 = .ok (.iconst 1, 1) := by decide +kernel
theorem d_SC_weight_6 : decode b_SC_weight 6 = .ok (.goto 4, 3) := by decide +kernel
theorem d_SC_weight_9 : decode b_SC_weight 9 = .ok (.iload_n 0, 1) := by decide +kernel
theorem d_SC_weight_10 : decode b_SC_weight 10 = .ok (.ireturn, 1) := by decide +kernel
theorem d_SC_exponent_0 : decode b_SC_exponent 0 = .ok (.iconst 0, 1) := by decide +kernel
theorem d_SC_exponent_1 : decode b_SC_exponent 1 = .ok (.istore_n 1, 1) := by decide +kernel
theorem d_SC_exponent_2 : decode b_SC_exponent 2 = .ok (.iload_n 1, 1) := by decide +kernel
theorem d_SC_exponent_3 : decode b_SC_exponent 3 = .ok (.bipush 30, 2) := by decide +kernel
theorem d_SC_exponent_5 : decode b_SC_exponent 5 = .ok (.if_icmp .ge 17, 3) := by decide +kernel
theorem d_SC_exponent_8 : decode b_SC_exponent 8 = .ok (.iload_n 0, 1) := by decide +kernel
theorem d_SC_exponent_9 : decode b_SC_exponent 9 = .ok (.iload_n 1, 1) := by decide +kernel
theorem d_SC_exponent_10 : decode b_SC_exponent 10 = .ok (.iconst 1, 1) := by decide +kernel
theorem d_SC_exponent_11 : decode b_SC_exponent 11 = .ok (.iadd, 1) := by decide +kernel
theorem d_SC_exponent_12 : decode b_SC_exponent 12 = .ok (.ishr, 1) := by decide +kernel
theorem d_SC_exponent_13 : decode b_SC_exponent 13 = .ok (.ifCond .le 9, 3) := by decide +kernel
theorem d_SC_exponent_16 : decode b_SC_exponent 16 = .ok (.iinc 1 1, 3) := by decide +kernel
theorem d_SC_exponent_19 : decode b_SC_exponent 19 = .ok (.goto (-17), 3) := by decide +kernel
theorem d_SC_exponent_22 : decode b_SC_exponent 22 = .ok (.iload_n 1, 1) := by decide +kernel
theorem d_SC_exponent_23 : decode b_SC_exponent 23 = .ok (.ireturn, 1) := by decide +kernel
theorem d_Arrays_fill_0 : decode b_Arrays_fill 0 = .ok (.iconst 0, 1) := by decide +kernel
theorem d_Arrays_fill_1 : decode b_Arrays_fill 1 = .ok (.istore_n 2, 1) := by decide +kernel
theorem d_Arrays_fill_2 : decode b_Arrays_fill 2 = .ok (.aload_n 0, 1) := by decide +kernel
theorem d_Arrays_fill_3 : decode b_Arrays_fill 3 = .ok (.arraylength, 1) := by decide +kernel
theorem d_Arrays_fill_4 : decode b_Arrays_fill 4 = .ok (.istore_n 3, 1) := by decide +kernel
theorem d_Arrays_fill_5 : decode b_Arrays_fill 5 = .ok (.iload_n 2, 1) := by decide +kernel
theorem d_Arrays_fill_6 : decode b_Arrays_fill 6 = .ok (.iload_n 3, 1) := by decide +kernel
theorem d_Arrays_fill_7 : decode b_Arrays_fill 7 = .ok (.if_icmp .ge 13, 3) := by decide +kernel
theorem d_Arrays_fill_10 : decode b_Arrays_fill 10 = .ok (.aload_n 0, 1) := by decide +kernel
theorem d_Arrays_fill_11 : decode b_Arrays_fill 11 = .ok (.iload_n 2, 1) := by decide +kernel
theorem d_Arrays_fill_12 : decode b_Arrays_fill 12 = .ok (.iload_n 1, 1) := by decide +kernel
theorem d_Arrays_fill_13 : decode b_Arrays_fill 13 = .ok (.iastore, 1) := by decide +kernel
theorem d_Arrays_fill_14 : decode b_Arrays_fill 14 = .ok (.iinc 2 1, 3) := by decide +kernel
theorem d_Arrays_fill_17 : decode b_Arrays_fill 17 = .ok (.goto (-12), 3) := by decide +kernel
theorem d_Arrays_fill_20 : decode b_Arrays_fill 20 = .ok (.return_, 1) := by decide +kernel
abbrev rm_isSymbol : Room := { frames := 0, cells := 0, slots := 0, locals := 0 }
set_option maxHeartbeats 4000000 in
set_option maxRecDepth 100000 in
theorem c_isSymbol (l : Launch) (D : va_G) (cI cB cZ : ClassId) (x : Int) (hr : -2147483648 ≤ x ∧ x < 2147483648) : Met l y_SC_isSymbol (.code y_SC_isSymbol b_SC_isSymbol 1 (some .boolean) :: zT) rm_isSymbol (zRc D classes (TY cI cB cZ) [] [.int (iZ x)]) (zSi (fun z => (z = 1 ∧ 0 ≤ x ∧ x < 256) ∨ (z = 0 ∧ (x < 0 ∨ 256 ≤ x)))) 0 0 (fun _ => False) := by
  refine z_ofr (by decide) (Nat.le_of_ble_eq_true rfl) (Or.inr rfl) ?_
  intro p e s m args below meth c Q E jP jK jret ls jl
  obtain ⟨jx, jb, jrt, jml, jown, jts, jlk⟩ := E
  have jown : s.vm.findClass R_SC = some m.cls := jown
  have jl : lv_has ls 1 [(0, .int (iZ x))] := jl
  refine lv_iload_n jx jb d_SC_isSymbol_0 rfl (lv_at jl 0 rfl) ?_
  refine z_if_lt (tgt := 15) jx jb d_SC_isSymbol_1 (by decide) ⟨by omega, by omega⟩ (fun hc1 => ?_) (fun hc1 => ?_)
  ·
    refine lv_iconst (v := iZ 0) jx jb d_SC_isSymbol_15 rfl ?_
    exact jret _ _ _ (Or.inr (Or.inl rfl)) (by omega) d_SC_isSymbol_16
  ·
    refine lv_iload_n jx jb d_SC_isSymbol_4 rfl (lv_at jl 0 rfl) ?_
    refine lv_sipush (v := iZ 256) jx jb d_SC_isSymbol_5 (by decide) ?_
    refine z_icmp_ge (tgt := 15) jx jb d_SC_isSymbol_8 (by decide) ⟨⟨by omega, by omega⟩, ⟨by decide, by decide⟩⟩ (fun hc8 => ?_) (fun hc8 => ?_)
    ·
      refine lv_iconst (v := iZ 0) jx jb d_SC_isSymbol_15 rfl ?_
      exact jret _ _ _ (Or.inr (Or.inl rfl)) (by omega) d_SC_isSymbol_16
    ·
      refine lv_iconst (v := iZ 1) jx jb d_SC_isSymbol_11 rfl ?_
      refine lv_goto (tgt := 16) jx jb d_SC_isSymbol_12 (by decide) ?_
      exact jret _ _ _ (Or.inr (Or.inr rfl)) (by omega) d_SC_isSymbol_16
abbrev rm_isOrder : Room := { frames := 0, cells := 0, slots := 0, locals := 0 }
set_option maxHeartbeats 4000000 in
set_option maxRecDepth 100000 in
theorem c_isOrder (l : Launch) (D : va_G) (cI cB cZ : ClassId) (x : Int) (hr : -2147483648 ≤ x ∧ x < 2147483648) : Met l y_SC_isOrder (.code y_SC_isOrder b_SC_isOrder 1 (some .boolean) :: zT) rm_isOrder (zRc D classes (TY cI cB cZ) [] [.int (iZ x)]) (zSi (fun z => (z = 1 ∧ 5 ≤ x ∧ x ≤ 12) ∨ (z = 0 ∧ (x < 5 ∨ 12 < x)))) 0 0 (fun _ => False) := by
  refine z_ofr (by decide) (Nat.le_of_ble_eq_true rfl) (Or.inr rfl) ?_
  intro p e s m args below meth c Q E jP jK jret ls jl
  obtain ⟨jx, jb, jrt, jml, jown, jts, jlk⟩ := E
  have jown : s.vm.findClass R_SC = some m.cls := jown
  have jl : lv_has ls 1 [(0, .int (iZ x))] := jl
  refine lv_iload_n jx jb d_SC_isOrder_0 rfl (lv_at jl 0 rfl) ?_
  refine lv_iconst (v := iZ 5) jx jb d_SC_isOrder_1 rfl ?_
  refine z_icmp_lt (tgt := 15) jx jb d_SC_isOrder_2 (by decide) ⟨⟨by omega, by omega⟩, ⟨by decide, by decide⟩⟩ (fun hc2 => ?_) (fun hc2 => ?_)
  ·
    refine lv_iconst (v := iZ 0) jx jb d_SC_isOrder_15 rfl ?_
    exact jret _ _ _ (Or.inr (Or.inl rfl)) (by omega) d_SC_isOrder_16
  ·
    refine lv_iload_n jx jb d_SC_isOrder_5 rfl (lv_at jl 0 rfl) ?_
    refine lv_bipush (v := iZ 12) jx jb d_SC_isOrder_6 (by decide) ?_
    refine z_icmp_gt (tgt := 15) jx jb d_SC_isOrder_8 (by decide) ⟨⟨by omega, by omega⟩, ⟨by decide, by decide⟩⟩ (fun hc8 => ?_) (fun hc8 => ?_)
    ·
      refine lv_iconst (v := iZ 0) jx jb d_SC_isOrder_15 rfl ?_
      exact jret _ _ _ (Or.inr (Or.inl rfl)) (by omega) d_SC_isOrder_16
    ·
      refine lv_iconst (v := iZ 1) jx jb d_SC_isOrder_11 rfl ?_
      refine lv_goto (tgt := 16) jx jb d_SC_isOrder_12 (by decide) ?_
      exact jret _ _ _ (Or.inr (Or.inr rfl)) (by omega) d_SC_isOrder_16
abbrev rm_weight : Room := { frames := 0, cells := 0, slots := 0, locals := 0 }
set_option maxHeartbeats 4000000 in
set_option maxRecDepth 100000 in
theorem c_weight (l : Launch) (D : va_G) (cI cB cZ : ClassId) (x : Int) (hr : -2147483648 ≤ x ∧ x < 2147483648) : Met l y_SC_weight (.code y_SC_weight b_SC_weight 1 (some .int) :: zT) rm_weight (zRc D classes (TY cI cB cZ) [] [.int (iZ x)]) (zSi (fun z => z = wgt x)) 0 0 (fun _ => False) := by
  refine z_ofr (by decide) (Nat.le_of_ble_eq_true rfl) (Or.inl rfl) ?_
  intro p e s m args below meth c Q E jP jK jret ls jl
  obtain ⟨jx, jb, jrt, jml, jown, jts, jlk⟩ := E
  have jown : s.vm.findClass R_SC = some m.cls := jown
  have jl : lv_has ls 1 [(0, .int (iZ x))] := jl
  refine lv_iload_n jx jb d_SC_weight_0 rfl (lv_at jl 0 rfl) ?_
  refine lv_iconst (v := iZ (-1)) jx jb d_SC_weight_1 rfl ?_
  refine z_icmp_ne (tgt := 9) jx jb d_SC_weight_2 (by decide) ⟨⟨by omega, by omega⟩, ⟨by decide, by decide⟩⟩ (fun hc2 => ?_) (fun hc2 => ?_)
  ·
    refine lv_iload_n jx jb d_SC_weight_9 rfl (lv_at jl 0 rfl) ?_
    exact jret _ _ _ (Or.inl rfl) (by first | exact (if_pos hc2).symm | exact (if_neg hc2).symm) d_SC_weight_10
  ·
    refine lv_iconst (v := iZ 1) jx jb d_SC_weight_5 rfl ?_
    refine lv_goto (tgt := 10) jx jb d_SC_weight_6 (by decide) ?_
    exact jret _ _ _ (Or.inl rfl) (by first | exact (if_pos hc2).symm | exact (if_neg hc2).symm) d_SC_weight_10
abbrev rm_exponent : Room := { frames := 0, cells := 0, slots := 0, locals := 0 }
set_option maxHeartbeats 4000000 in
set_option maxRecDepth 100000 in
theorem c_exponent (l : Launch) (D : va_G) (cI cB cZ : ClassId) (x : Int) (hr : 0 < x ∧ x < 2147483648) : Met l y_SC_exponent (.code y_SC_exponent b_SC_exponent 2 (some .int) :: zT) rm_exponent (zRc D classes (TY cI cB cZ) [] [.int (iZ x)]) (zSi (fun z => z = (zlog x : Int))) 0 0 (fun _ => False) := by
  refine z_ofr (by decide) (Nat.le_of_ble_eq_true rfl) (Or.inl rfl) ?_
  intro p e s m args below meth c Q E jP jK jret ls jl
  obtain ⟨jx, jb, jrt, jml, jown, jts, jlk⟩ := E
  have jown : s.vm.findClass R_SC = some m.cls := jown
  have jl : lv_has ls 2 [(0, .int (iZ x))] := jl
  refine lv_iconst (v := iZ 0) jx jb d_SC_exponent_0 rfl ?_
  refine lv_istore_n (lv' := [(1, .int (iZ 0)), (0, .int (iZ x))]) jx jb d_SC_exponent_1 rfl jl (by decide) rfl (fun ls jl => ?_)
  have hloop2 : ∀ (nF : Nat) (k : Nat), 30 - k < nF → ((2 : Int) ^ k ≤ x) → (k ≤ 30) → ∀ ls : Array Slot, lv_has ls 2 [(0, .int (iZ x)), (1, .int (iZ (k : Int)))] → W p l e rm_exponent s m args below meth c s.heap [] 0 0 Q (F0 m 2 ls []) := by
    intro nF
    induction nF with
    | zero => intro k hm; exact absurd hm (Nat.not_lt_zero _)
    | succ nF ih2 =>
      intro k hm h1 h30 ls jl
      have hpk : (2 : Int) ^ (k + 1) = 2 ^ k * 2 := Int.pow_succ ..
      have hp0 : (0 : Int) < 2 ^ k := Int.pow_pos (by decide)
      have hpd : (0 : Int) < 2 ^ (k + 1) := Int.pow_pos (by decide)
      refine lv_iload_n jx jb d_SC_exponent_2 rfl (lv_at jl 1 rfl) ?_
      refine lv_bipush (v := iZ 30) jx jb d_SC_exponent_3 (by decide) ?_
      refine z_icmp_ge (tgt := 22) jx jb d_SC_exponent_5 (by decide) ⟨⟨by omega, by omega⟩, ⟨by decide, by decide⟩⟩ (fun hc5 => ?_) (fun hc5 => ?_)
      ·
        refine lv_iload_n jx jb d_SC_exponent_22 rfl (lv_at jl 1 rfl) ?_
        exact jret _ _ _ (Or.inl rfl) (by first | rw [zlog_e30 h1 (by omega) hr.2] | rw [zlog_ex h1 hc13]) d_SC_exponent_23
      ·
        refine lv_iload_n jx jb d_SC_exponent_8 rfl (lv_at jl 0 rfl) ?_
        refine lv_iload_n jx jb d_SC_exponent_9 rfl (lv_at jl 1 rfl) ?_
        refine lv_iconst (v := iZ 1) jx jb d_SC_exponent_10 rfl ?_
        refine z_iadd jx jb d_SC_exponent_11 ?_
        refine z_ishr jx jb d_SC_exponent_12 (k + 1) (2 ^ (k + 1)) (rfl) (by omega) ?_
        refine z_if_le (tgt := 22) jx jb d_SC_exponent_13 (by decide) ⟨by have := Int.ediv_nonneg (a := x) (b := 2 ^ (k + 1)) (by omega) (by omega); omega, by have := Int.ediv_le_self (a := x) (2 ^ (k + 1)) (by omega); omega⟩ (fun hc13 => ?_) (fun hc13 => ?_)
        ·
          refine lv_iload_n jx jb d_SC_exponent_22 rfl (lv_at jl 1 rfl) ?_
          exact jret _ _ _ (Or.inl rfl) (by first | rw [zlog_e30 h1 (by omega) hr.2] | rw [zlog_ex h1 hc13]) d_SC_exponent_23
        ·
          refine lv_iinc (v := iZ ((k : Int) + 1)) (lv' := [(1, .int (iZ ((k : Int) + 1))), (0, .int (iZ x))]) jx jb d_SC_exponent_16 jl (k := 1) rfl (iZ_add _ _) (by decide) rfl (fun ls jl => ?_)
          refine lv_goto (tgt := 2) jx jb d_SC_exponent_19 (by decide) ?_
          exact ih2 (k + 1) (by omega) (zlog_nx (by omega)) (by first | assumption | omega) _ (lv_sub jl [1, 0] rfl)
  exact hloop2 ((30 - 0) + 1) 0 (Nat.lt_succ_self _) (by rw [Int.pow_zero]; omega) (by first | assumption | omega) _ (lv_sub jl [1, 0] rfl)
abbrev rm_fill : Room := { frames := 0, cells := 0, slots := 0, locals := 0 }
set_option maxHeartbeats 4000000 in
set_option maxRecDepth 100000 in
theorem c_fill (l : Launch) (D : va_G) (cI cB cZ : ClassId) (sz : Nat) (q : Nat) (g1 : Nat → Int) (v : Int) (hv : -2147483648 ≤ v ∧ v < 2147483648) : Met l y_Arrays_fill (.code y_Arrays_fill b_Arrays_fill 4 none :: zT) rm_fill (zPc D classes (TY cI cB cZ) [(q, .inl (cI, 256, .inl (zA g1)))] sz [.ref q, .int (iZ v)]) (zFv (S := Unit) D classes (fun _u => True) (fun _u => [(q, .inl (cI, 256, .inl (zA (fun k => if k < 256 then v else g1 k))))]) (va_A [(q, .inl (cI, 256, .inl (zA g1)))] sz)) 0 0 (va_A [(q, .inl (cI, 256, .inl (zA g1)))] sz) := by
  refine z_ofv (by decide) (Nat.le_of_ble_eq_true rfl) rfl ?_
  intro p e s m args below meth c A Q E jmn jA jK jret H locs jP jD jS ls jl
  obtain ⟨jx, jb, jrt, jml, jown, jts, jlk⟩ := E
  have jown : s.vm.findClass R_Arrays = some m.cls := jown
  have jl : lv_has ls 4 [(0, .ref q), (1, .int (iZ v))] := jl
  refine lv_iconst (v := iZ 0) jx jb d_Arrays_fill_0 rfl ?_
  refine lv_istore_n (lv' := [(2, .int (iZ 0)), (0, .ref q), (1, .int (iZ v))]) jx jb d_Arrays_fill_1 rfl jl (by decide) rfl (fun ls jl => ?_)
  refine lv_aload_n jx jb d_Arrays_fill_2 rfl (lv_at jl 1 rfl) ?_
  refine va_alen (v := iZ 256) jx jb jK.1 jP 0 0 rfl rfl rfl d_Arrays_fill_3 ?_
  refine lv_istore_n (lv' := [(3, .int (iZ 256)), (2, .int (iZ 0)), (0, .ref q), (1, .int (iZ v))]) jx jb d_Arrays_fill_4 rfl jl (by decide) rfl (fun ls jl => ?_)
  have hloop5 : ∀ (nF : Nat) (i : Nat) (g2 : Nat → Int), 256 - i < nF → (i ≤ 256) → (g2 = fun k => if k < i then v else g1 k) → ∀ (H : Heap) (locs : List Loc), va_P D classes [(q, .inl (cI, 256, .inl (zA g2)))] H → va_D A [(q, .inl (cI, 256, .inl (zA g2)))] → va_S A s.heap H locs → ∀ ls : Array Slot, lv_has ls 4 [(0, .ref q), (1, .int (iZ v)), (2, .int (iZ (i : Int))), (3, .int (iZ 256))] → W p l e rm_fill s m args below meth c H locs 0 0 Q (F0 m 5 ls []) := by
    intro nF
    induction nF with
    | zero => intro i g2 hm; exact absurd hm (Nat.not_lt_zero _)
    | succ nF ih5 =>
      intro i g2 hm hi hg H locs jP jD jS ls jl
      refine lv_iload_n jx jb d_Arrays_fill_5 rfl (lv_at jl 2 rfl) ?_
      refine lv_iload_n jx jb d_Arrays_fill_6 rfl (lv_at jl 3 rfl) ?_
      refine z_icmp_ge (tgt := 20) jx jb d_Arrays_fill_7 (by decide) ⟨⟨by omega, by omega⟩, ⟨by decide, by decide⟩⟩ (fun hc7 => ?_) (fun hc7 => ?_)
      ·
        obtain rfl : i = 256 := by omega
        subst hg
        exact jret _ _ () _ _ (trivial) (jP.sub [0] rfl) (jD.sub [0] (by decide) rfl) jS d_Arrays_fill_20
      ·
        refine lv_aload_n jx jb d_Arrays_fill_10 rfl (lv_at jl 0 rfl) ?_
        refine lv_iload_n jx jb d_Arrays_fill_11 rfl (lv_at jl 2 rfl) ?_
        refine lv_iload_n jx jb d_Arrays_fill_12 rfl (lv_at jl 1 rfl) ?_
        refine z_iast jx jb jK.1 jP jD jS 0 0 rfl rfl i (by omega) d_Arrays_fill_13 (fun H locs jP jD jS => ?_)
        have jP : va_P D classes [(q, .inl (cI, 256, .inl (zA (zu g2 i v))))] H := jP
        have jD : va_D A [(q, .inl (cI, 256, .inl (zA (zu g2 i v))))] := jD
        refine lv_iinc (v := iZ ((i : Int) + 1)) (lv' := [(2, .int (iZ ((i : Int) + 1))), (0, .ref q), (1, .int (iZ v)), (3, .int (iZ 256))]) jx jb d_Arrays_fill_14 jl (k := 2) rfl (iZ_add _ _) (by decide) rfl (fun ls jl => ?_)
        refine lv_goto (tgt := 5) jx jb d_Arrays_fill_17 (by decide) ?_
        exact ih5 (i + 1) (zu g2 i v) (by omega) (by first | assumption | omega) (by rw [hg, fill_s]) _ _ (jP.sub [0] rfl) (jD.sub [0] (by decide) rfl) jS _ (lv_sub jl [1, 2, 0, 3] rfl)
  exact hloop5 ((256 - 0) + 1) 0 g1 (Nat.lt_succ_self _) (by first | assumption | omega) (fill_0) _ _ (jP.sub [0] rfl) (jD.sub [0] (by decide) rfl) jS _ (lv_sub jl [2, 3, 1, 0] rfl)
end
section
theorem fl_Row_15 : Cond.fieldLink R_Row 15 "StateCoder$Row" "length" "I" ∈ zT := zT_of (List.mem_of_getElem? (i := 61) (by decide +kernel)) rfl
theorem fl_Row_25 : Cond.fieldLink R_Row 25 "StateCoder$Row" "overfull" "Z" ∈ zT := zT_of (List.mem_of_getElem? (i := 64) (by decide +kernel)) rfl
theorem fl_Row_19 : Cond.fieldLink R_Row 19 "StateCoder$Row" "held" "I" ∈ zT := zT_of (List.mem_of_getElem? (i := 62) (by decide +kernel)) rfl
theorem fl_Row_22 : Cond.fieldLink R_Row 22 "StateCoder$Row" "heldBits" "I" ∈ zT := zT_of (List.mem_of_getElem? (i := 63) (by decide +kernel)) rfl
theorem fl_Row_9 : Cond.fieldLink R_Row 9 "StateCoder$Row" "bytes" "[B" ∈ zT := zT_of (List.mem_of_getElem? (i := 60) (by decide +kernel)) rfl
theorem cd_Row_byteOrZero : Cond.code y_Row_byteOrZero b_Row_byteOrZero 2 (some .int) ∈ zT := zT_of (List.mem_of_getElem? (i := 214) (by decide +kernel)) rfl
theorem in_Row : Cond.initialized R_Row ∈ zT := zT_of (List.mem_of_getElem? (i := 36) (by decide +kernel)) rfl
theorem hd_Row_byteOrZero : y_Row_byteOrZero.cls ≠ "java/lang/invoke/MethodHandle" ∧ y_Row_byteOrZero.cls ≠ "java/lang/invoke/VarHandle" ∧ (parseMethodDescriptor y_Row_byteOrZero.desc).map (fun d => d.parameters.length) = some 1 := by decide +kernel
theorem lk_Row_46 : Cond.methodLink R_Row 46 y_Row_byteOrZero ∈ zT := zT_of (List.mem_of_getElem? (i := 374) (by decide +kernel)) rfl
theorem im_Row_byteOrZero : Cond.instanceMethod y_Row_byteOrZero ∈ zT := zT_of (List.mem_of_getElem? (i := 212) (by decide +kernel)) rfl
theorem se_Row_byteOrZero : Cond.selects R_Row y_Row_byteOrZero y_Row_byteOrZero ∈ zT := zT_of (List.mem_of_getElem? (i := 213) (by decide +kernel)) rfl
theorem fl_Row_50 : Cond.fieldLink R_Row 50 "StateCoder$Row" "takeStart" "I" ∈ zT := zT_of (List.mem_of_getElem? (i := 65) (by decide +kernel)) rfl
theorem fl_Row_53 : Cond.fieldLink R_Row 53 "StateCoder$Row" "takenBits" "I" ∈ zT := zT_of (List.mem_of_getElem? (i := 66) (by decide +kernel)) rfl
theorem cd_Row_number : Cond.code y_Row_number b_Row_number 6 (some .int) ∈ zT := zT_of (List.mem_of_getElem? (i := 373) (by decide +kernel)) rfl
theorem hd_Row_number : y_Row_number.cls ≠ "java/lang/invoke/MethodHandle" ∧ y_Row_number.cls ≠ "java/lang/invoke/VarHandle" ∧ (parseMethodDescriptor y_Row_number.desc).map (fun d => d.parameters.length) = some 3 := by decide +kernel
theorem lk_Row_56 : Cond.methodLink R_Row 56 y_Row_number ∈ zT := zT_of (List.mem_of_getElem? (i := 370) (by decide +kernel)) rfl
theorem im_Row_number : Cond.instanceMethod y_Row_number ∈ zT := zT_of (List.mem_of_getElem? (i := 371) (by decide +kernel)) rfl
theorem se_Row_number : Cond.selects R_Row y_Row_number y_Row_number ∈ zT := zT_of (List.mem_of_getElem? (i := 372) (by decide +kernel)) rfl
theorem cd_Row_nextBits : Cond.code y_Row_nextBits b_Row_nextBits 2 (some .int) ∈ zT := zT_of (List.mem_of_getElem? (i := 369) (by decide +kernel)) rfl
theorem hd_Row_nextBits : y_Row_nextBits.cls ≠ "java/lang/invoke/MethodHandle" ∧ y_Row_nextBits.cls ≠ "java/lang/invoke/VarHandle" ∧ (parseMethodDescriptor y_Row_nextBits.desc).map (fun d => d.parameters.length) = some 1 := by decide +kernel
theorem lk_Row_60 : Cond.methodLink R_Row 60 y_Row_nextBits ∈ zT := zT_of (List.mem_of_getElem? (i := 366) (by decide +kernel)) rfl
theorem im_Row_nextBits : Cond.instanceMethod y_Row_nextBits ∈ zT := zT_of (List.mem_of_getElem? (i := 367) (by decide +kernel)) rfl
theorem se_Row_nextBits : Cond.selects R_Row y_Row_nextBits y_Row_nextBits ∈ zT := zT_of (List.mem_of_getElem? (i := 368) (by decide +kernel)) rfl
theorem cd_Row_add : Cond.code y_Row_add b_Row_add 2 none ∈ zT := zT_of (List.mem_of_getElem? (i := 167) (by decide +kernel)) rfl
theorem hd_Row_add : y_Row_add.cls ≠ "java/lang/invoke/MethodHandle" ∧ y_Row_add.cls ≠ "java/lang/invoke/VarHandle" ∧ (parseMethodDescriptor y_Row_add.desc).map (fun d => d.parameters.length) = some 1 := by decide +kernel
theorem lk_Row_38 : Cond.methodLink R_Row 38 y_Row_add ∈ zT := zT_of (List.mem_of_getElem? (i := 320) (by decide +kernel)) rfl
theorem im_Row_add : Cond.instanceMethod y_Row_add ∈ zT := zT_of (List.mem_of_getElem? (i := 165) (by decide +kernel)) rfl
theorem se_Row_add : Cond.selects R_Row y_Row_add y_Row_add ∈ zT := zT_of (List.mem_of_getElem? (i := 166) (by decide +kernel)) rfl
theorem cd_Row_putBits : Cond.code y_Row_putBits b_Row_putBits 3 none ∈ zT := zT_of (List.mem_of_getElem? (i := 319) (by decide +kernel)) rfl
theorem hd_Row_putBits : y_Row_putBits.cls ≠ "java/lang/invoke/MethodHandle" ∧ y_Row_putBits.cls ≠ "java/lang/invoke/VarHandle" ∧ (parseMethodDescriptor y_Row_putBits.desc).map (fun d => d.parameters.length) = some 2 := by decide +kernel
theorem lk_Row_42 : Cond.methodLink R_Row 42 y_Row_putBits ∈ zT := zT_of (List.mem_of_getElem? (i := 346) (by decide +kernel)) rfl
theorem im_Row_putBits : Cond.instanceMethod y_Row_putBits ∈ zT := zT_of (List.mem_of_getElem? (i := 317) (by decide +kernel)) rfl
theorem se_Row_putBits : Cond.selects R_Row y_Row_putBits y_Row_putBits ∈ zT := zT_of (List.mem_of_getElem? (i := 318) (by decide +kernel)) rfl
theorem cd_Row_empty : Cond.code y_Row_empty b_Row_empty 1 none ∈ zT := zT_of (List.mem_of_getElem? (i := 179) (by decide +kernel)) rfl
theorem hd_Row_empty : y_Row_empty.cls ≠ "java/lang/invoke/MethodHandle" ∧ y_Row_empty.cls ≠ "java/lang/invoke/VarHandle" ∧ (parseMethodDescriptor y_Row_empty.desc).map (fun d => d.parameters.length) = some 0 := by decide +kernel
theorem lk_Row_29 : Cond.methodLink R_Row 29 y_Row_empty ∈ zT := zT_of (List.mem_of_getElem? (i := 176) (by decide +kernel)) rfl
theorem im_Row_empty : Cond.instanceMethod y_Row_empty ∈ zT := zT_of (List.mem_of_getElem? (i := 177) (by decide +kernel)) rfl
theorem se_Row_empty : Cond.selects R_Row y_Row_empty y_Row_empty ∈ zT := zT_of (List.mem_of_getElem? (i := 178) (by decide +kernel)) rfl
theorem lk_Row_32 : Cond.methodLink R_Row 32 arraycopyName ∈ zT := zT_of (List.mem_of_getElem? (i := 180) (by decide +kernel)) rfl
theorem nt_arraycopy : Cond.native arraycopyName ∈ zT := zT_of (List.mem_of_getElem? (i := 182) (by decide +kernel)) rfl
theorem st_arraycopy : Cond.static arraycopyName ∈ zT := zT_of (List.mem_of_getElem? (i := 181) (by decide +kernel)) rfl
theorem in_System : Cond.initialized "java/lang/System" ∈ zT := zT_of (List.mem_of_getElem? (i := 40) (by decide +kernel)) rfl
theorem lk_Row_3 : Cond.methodLink R_Row 3 objectInit ∈ zT := zT_of (List.mem_of_getElem? (i := 59) (by decide +kernel)) rfl
theorem im_objectInit : Cond.instanceMethod objectInit ∈ zT := zT_of (List.mem_of_getElem? (i := 52) (by decide +kernel)) rfl
theorem cd_objectInit : Cond.code objectInit ⟨#[0xb1]⟩ 1 none ∈ zT := zT_of (List.mem_of_getElem? (i := 53) (by decide +kernel)) rfl
theorem ac_byte : Cond.arrayClass (newarray.typeOf .byte) ∈ zT := zT_of (List.mem_of_getElem? (i := 83) (by decide +kernel)) rfl
theorem d_Row_length_0 : decode b_Row_length 0 = .ok (.aload_n 0, 1) := by decide +kernel
theorem d_Row_length_1 : decode b_Row_length 1 = .ok (.getfield 15, 3) := by decide +kernel
theorem d_Row_length_4 : decode b_Row_length 4 = .ok (.ireturn, 1) := by decide +kernel
theorem d_Row_isOverfull_0 : decode b_Row_isOverfull 0 = .ok (.aload_n 0, 1) := by decide +kernel
theorem d_Row_isOverfull_1 : decode b_Row_isOverfull 1 = .ok (.getfield 25, 3) := by decide +kernel
theorem d_Row_isOverfull_4 : decode b_Row_isOverfull 4 = .ok (.ireturn, 1) := by decide +kernel
theorem d_Row_empty_0 : decode b_Row_empty 0 = .ok (.aload_n 0, 1) := by decide +kernel
theorem d_Row_empty_1 : decode b_Row_empty 1 = .ok (.iconst 0, 1) := by decide +kernel
theorem d_Row_empty_2 : decode b_Row_empty 2 = .ok (.putfield 15, 3) := by decide +kernel
theorem d_Row_empty_5 : decode b_Row_empty 5 = .ok (.aload_n 0, 1) := by decide +kernel
theorem d_Row_empty_6 : decode b_Row_empty 6 = .ok (.iconst 0, 1) := by decide +kernel
theorem d_Row_empty_7 : decode b_Row_empty 7 = .ok (.putfield 19, 3) := by decide +kernel
theorem d_Row_empty_10 : decode b_Row_empty 10 = .ok (.aload_n 0, 1) := by decide +kernel
theorem d_Row_empty_11 : decode b_Row_empty 11 = .ok (.iconst 0, 1) := by decide +kernel
theorem d_Row_empty_12 : decode b_Row_empty 12 = .ok (.putfield 22, 3) := by decide +kernel
theorem d_Row_empty_15 : decode b_Row_empty 15 = .ok (.aload_n 0, 1) := by decide +kernel
theorem d_Row_empty_16 : decode b_Row_empty 16 = .ok (.iconst 0, 1) := by decide +kernel
theorem d_Row_empty_17 : decode b_Row_empty 17 = .ok (.putfield 25, 3) := by decide +kernel
theorem d_Row_empty_20 : decode b_Row_empty 20 = .ok (.return_, 1) := by decide +kernel
theorem d_Row_add_0 : decode b_Row_add 0 = .ok (.aload_n 0, 1) := by decide +kernel
theorem d_Row_add_1 : decode b_Row_add 1 = .ok (.getfield 15, 3) := by decide +kernel
theorem d_Row_add_4 : decode b_Row_add 4 = .ok (.ifCond .lt 37, 3) := by decide +kernel
theorem d_Row_add_7 : decode b_Row_add 7 = .ok (.aload_n 0, 1) := by decide +kernel
theorem d_Row_add_8 : decode b_Row_add 8 = .ok (.getfield 15, 3) := by decide +kernel
theorem d_Row_add_11 : decode b_Row_add 11 = .ok (.sipush 6000, 3) := by decide +kernel
theorem d_Row_add_14 : decode b_Row_add 14 = .ok (.if_icmp .ge 27, 3) := by decide +kernel
theorem d_Row_add_17 : decode b_Row_add 17 = .ok (.aload_n 0, 1) := by decide +kernel
theorem d_Row_add_18 : decode b_Row_add 18 = .ok (.getfield 9, 3) := by decide +kernel
theorem d_Row_add_21 : decode b_Row_add 21 = .ok (.aload_n 0, 1) := by decide +kernel
theorem d_Row_add_22 : decode b_Row_add 22 = .ok (.getfield 15, 3) := by decide +kernel
theorem d_Row_add_25 : decode b_Row_add 25 = .ok (.iload_n 1, 1) := by decide +kernel
theorem d_Row_add_26 : decode b_Row_add 26 = .ok (.i2b, 1) := by decide +kernel
theorem d_Row_add_27 : decode b_Row_add 27 = .ok (.bastore, 1) := by decide +kernel
theorem d_Row_add_28 : decode b_Row_add 28 = .ok (.aload_n 0, 1) := by decide +kernel
theorem d_Row_add_29 : decode b_Row_add 29 = .ok (.dup, 1) := by decide +kernel
theorem d_Row_add_30 : decode b_Row_add 30 = .ok (.getfield 15, 3) := by decide +kernel
theorem d_Row_add_33 : decode b_Row_add 33 = .ok (.iconst 1, 1) := by decide +kernel
theorem d_Row_add_34 : decode b_Row_add 34 = .ok (.iadd, 1) := by decide +kernel
theorem d_Row_add_35 : decode b_Row_add 35 = .ok (.putfield 15, 3) := by decide +kernel
theorem d_Row_add_38 : decode b_Row_add 38 = .ok (.goto 8, 3) := by decide +kernel
theorem d_Row_add_41 : decode b_Row_add 41 = .ok (.aload_n 0, 1) := by decide +kernel
theorem d_Row_add_42 : decode b_Row_add 42 = .ok (.iconst 1, 1) := by decide +kernel
theorem d_Row_add_43 : decode b_Row_add 43 = .ok (.putfield 25, 3) := by decide +kernel
theorem d_Row_add_46 : decode b_Row_add 46 = .ok (.return_, 1) := by decide +kernel
theorem d_Row_byteOrZero_0 : decode b_Row_byteOrZero 0 = .ok (.iload_n 1, 1) := by decide +kernel
theorem d_Row_byteOrZero_1 : decode b_Row_byteOrZero 1 = .ok (.ifCond .lt 18, 3) := by decide +kernel
theorem d_Row_byteOrZero_4 : decode b_Row_byteOrZero 4 = .ok (.iload_n 1, 1) := by decide +kernel
theorem d_Row_byteOrZero_5 : decode b_Row_byteOrZero 5 = .ok (.aload_n 0, 1) := by decide +kernel
theorem d_Row_byteOrZero_6 : decode b_Row_byteOrZero 6 = .ok (.getfield 15, 3) := by decide +kernel
theorem d_Row_byteOrZero_9 : decode b_Row_byteOrZero 9 = .ok (.if_icmp .ge 10, 3) := by decide +kernel
theorem d_Row_byteOrZero_12 : decode b_Row_byteOrZero 12 = .ok (.iload_n 1, 1) := by decide +kernel
theorem d_Row_byteOrZero_13 : decode b_Row_byteOrZero 13 = .ok (.sipush 6000, 3) := by decide +kernel
theorem d_Row_byteOrZero_16 : decode b_Row_byteOrZero 16 = .ok (.if_icmp .lt 7, 3) := by decide +kernel
theorem d_Row_byteOrZero_19 : decode b_Row_byteOrZero 19 = .ok (.iconst 0, 1) := by decide +kernel
theorem d_Row_byteOrZero_20 : decode b_Row_byteOrZero 20 = .ok (.goto 13, 3) := by decide +kernel
theorem d_Row_byteOrZero_23 : decode b_Row_byteOrZero 23 = .ok (.aload_n 0, 1) := by decide +kernel
theorem d_Row_byteOrZero_24 : decode b_Row_byteOrZero 24 = .ok (.getfield 9, 3) := by decide +kernel
theorem d_Row_byteOrZero_27 : decode b_Row_byteOrZero 27 = .ok (.iload_n 1, 1) := by decide +kernel
theorem d_Row_byteOrZero_28 : decode b_Row_byteOrZero 28 = .ok (.baload, 1) := by decide +kernel
theorem d_Row_byteOrZero_29 : decode b_Row_byteOrZero 29 = .ok (.sipush 255, 3) := by decide +kernel
theorem d_Row_byteOrZero_32 : decode b_Row_byteOrZero 32 = .ok (.iand, 1) := by decide +kernel
theorem d_Row_byteOrZero_33 : decode b_Row_byteOrZero 33 = .ok (.ireturn, 1) := by decide +kernel
theorem d_Row_number_0 : decode b_Row_number 0 = .ok (.iload_n 1, 1) := by decide +kernel
theorem d_Row_number_1 : decode b_Row_number 1 = .ok (.iload_n 2, 1) := by decide +kernel
theorem d_Row_number_2 : decode b_Row_number 2 = .ok (.iconst 3, 1) := by decide +kernel
theorem d_Row_number_3 : decode b_Row_number 3 = .ok (.ishr, 1) := by decide +kernel
theorem d_Row_number_4 : decode b_Row_number 4 = .ok (.iadd, 1) := by decide +kernel
theorem d_Row_number_5 : decode b_Row_number 5 = .ok (.istore 4, 2) := by decide +kernel
theorem d_Row_number_7 : decode b_Row_number 7 = .ok (.aload_n 0, 1) := by decide +kernel
theorem d_Row_number_8 : decode b_Row_number 8 = .ok (.iload 4, 2) := by decide +kernel
theorem d_Row_number_10 : decode b_Row_number 10 = .ok (.invokevirtual 46, 3) := by decide +kernel
theorem d_Row_number_13 : decode b_Row_number 13 = .ok (.aload_n 0, 1) := by decide +kernel
theorem d_Row_number_14 : decode b_Row_number 14 = .ok (.iload 4, 2) := by decide +kernel
theorem d_Row_number_16 : decode b_Row_number 16 = .ok (.iconst 1, 1) := by decide +kernel
theorem d_Row_number_17 : decode b_Row_number 17 = .ok (.iadd, 1) := by decide +kernel
theorem d_Row_number_18 : decode b_Row_number 18 = .ok (.invokevirtual 46, 3) := by decide +kernel
theorem d_Row_number_21 : decode b_Row_number 21 = .ok (.bipush 8, 2) := by decide +kernel
theorem d_Row_number_23 : decode b_Row_number 23 = .ok (.ishl, 1) := by decide +kernel
theorem d_Row_number_24 : decode b_Row_number 24 = .ok (.ior, 1) := by decide +kernel
theorem d_Row_number_25 : decode b_Row_number 25 = .ok (.aload_n 0, 1) := by decide +kernel
theorem d_Row_number_26 : decode b_Row_number 26 = .ok (.iload 4, 2) := by decide +kernel
theorem d_Row_number_28 : decode b_Row_number 28 = .ok (.iconst 2, 1) := by decide +kernel
theorem d_Row_number_29 : decode b_Row_number 29 = .ok (.iadd, 1) := by decide +kernel
theorem d_Row_number_30 : decode b_Row_number 30 = .ok (.invokevirtual 46, 3) := by decide +kernel
theorem d_Row_number_33 : decode b_Row_number 33 = .ok (.bipush 16, 2) := by decide +kernel
theorem d_Row_number_35 : decode b_Row_number 35 = .ok (.ishl, 1) := by decide +kernel
theorem d_Row_number_36 : decode b_Row_number 36 = .ok (.ior, 1) := by decide +kernel
theorem d_Row_number_37 : decode b_Row_number 37 = .ok (.istore 5, 2) := by decide +kernel
theorem d_Row_number_39 : decode b_Row_number 39 = .ok (.iload 5, 2) := by decide +kernel
theorem d_Row_number_41 : decode b_Row_number 41 = .ok (.iload_n 2, 1) := by decide +kernel
theorem d_Row_number_42 : decode b_Row_number 42 = .ok (.bipush 7, 2) := by decide +kernel
theorem d_Row_number_44 : decode b_Row_number 44 = .ok (.iand, 1) := by decide +kernel
theorem d_Row_number_45 : decode b_Row_number 45 = .ok (.ishr, 1) := by decide +kernel
theorem d_Row_number_46 : decode b_Row_number 46 = .ok (.iconst 1, 1) := by decide +kernel
theorem d_Row_number_47 : decode b_Row_number 47 = .ok (.iload_n 3, 1) := by decide +kernel
theorem d_Row_number_48 : decode b_Row_number 48 = .ok (.ishl, 1) := by decide +kernel
theorem d_Row_number_49 : decode b_Row_number 49 = .ok (.iconst 1, 1) := by decide +kernel
theorem d_Row_number_50 : decode b_Row_number 50 = .ok (.isub, 1) := by decide +kernel
theorem d_Row_number_51 : decode b_Row_number 51 = .ok (.iand, 1) := by decide +kernel
theorem d_Row_number_52 : decode b_Row_number 52 = .ok (.ireturn, 1) := by decide +kernel
theorem d_Row_startTaking_0 : decode b_Row_startTaking 0 = .ok (.aload_n 0, 1) := by decide +kernel
theorem d_Row_startTaking_1 : decode b_Row_startTaking 1 = .ok (.iload_n 1, 1) := by decide +kernel
theorem d_Row_startTaking_2 : decode b_Row_startTaking 2 = .ok (.putfield 50, 3) := by decide +kernel
theorem d_Row_startTaking_5 : decode b_Row_startTaking 5 = .ok (.aload_n 0, 1) := by decide +kernel
theorem d_Row_startTaking_6 : decode b_Row_startTaking 6 = .ok (.iconst 0, 1) := by decide +kernel
theorem d_Row_startTaking_7 : decode b_Row_startTaking 7 = .ok (.putfield 53, 3) := by decide +kernel
theorem d_Row_startTaking_10 : decode b_Row_startTaking 10 = .ok (.return_, 1) := by decide +kernel
theorem d_Row_hasBits_0 : decode b_Row_hasBits 0 = .ok (.aload_n 0, 1) := by decide +kernel
theorem d_Row_hasBits_1 : decode b_Row_hasBits 1 = .ok (.getfield 53, 3) := by decide +kernel
theorem d_Row_hasBits_4 : decode b_Row_hasBits 4 = .ok (.iload_n 1, 1) := by decide +kernel
theorem d_Row_hasBits_5 : decode b_Row_hasBits 5 = .ok (.iadd, 1) := by decide +kernel
theorem d_Row_hasBits_6 : decode b_Row_hasBits 6 = .ok (.bipush 8, 2) := by decide +kernel
theorem d_Row_hasBits_8 : decode b_Row_hasBits 8 = .ok (.aload_n 0, 1) := by decide +kernel
theorem d_Row_hasBits_9 : decode b_Row_hasBits 9 = .ok (.getfield 15, 3) := by decide +kernel
theorem d_Row_hasBits_12 : decode b_Row_hasBits 12 = .ok (.aload_n 0, 1) := by decide +kernel
theorem d_Row_hasBits_13 : decode b_Row_hasBits 13 = .ok (.getfield 50, 3) := by decide +kernel
theorem d_Row_hasBits_16 : decode b_Row_hasBits 16 = .ok (.isub, 1) := by decide +kernel
theorem d_Row_hasBits_17 : decode b_Row_hasBits 17 = .ok (.imul, 1) := by decide +kernel
theorem d_Row_hasBits_18 : decode b_Row_hasBits 18 = .ok (.if_icmp .gt 7, 3) := by decide +kernel
theorem d_Row_hasBits_21 : decode b_Row_hasBits 21 = .ok (.iconst 1, 1) := by decide +kernel
theorem d_Row_hasBits_22 : decode b_Row_hasBits 22 = .ok (.goto 4, 3) := by decide +kernel
theorem d_Row_hasBits_25 : decode b_Row_hasBits 25 = .ok (.iconst 0, 1) := by decide +kernel
theorem d_Row_hasBits_26 : decode b_Row_hasBits 26 = .ok (.ireturn, 1) := by decide +kernel
theorem d_Row_nextBits_0 : decode b_Row_nextBits 0 = .ok (.aload_n 0, 1) := by decide +kernel
theorem d_Row_nextBits_1 : decode b_Row_nextBits 1 = .ok (.aload_n 0, 1) := by decide +kernel
theorem d_Row_nextBits_2 : decode b_Row_nextBits 2 = .ok (.getfield 50, 3) := by decide +kernel
theorem d_Row_nextBits_5 : decode b_Row_nextBits 5 = .ok (.aload_n 0, 1) := by decide +kernel
theorem d_Row_nextBits_6 : decode b_Row_nextBits 6 = .ok (.getfield 53, 3) := by decide +kernel
theorem d_Row_nextBits_9 : decode b_Row_nextBits 9 = .ok (.iload_n 1, 1) := by decide +kernel
theorem d_Row_nextBits_10 : decode b_Row_nextBits 10 = .ok (.invokevirtual 56, 3) := by decide +kernel
theorem d_Row_nextBits_13 : decode b_Row_nextBits 13 = .ok (.ireturn, 1) := by decide +kernel
theorem d_Row_takeBits_0 : decode b_Row_takeBits 0 = .ok (.aload_n 0, 1) := by decide +kernel
theorem d_Row_takeBits_1 : decode b_Row_takeBits 1 = .ok (.iload_n 1, 1) := by decide +kernel
theorem d_Row_takeBits_2 : decode b_Row_takeBits 2 = .ok (.invokevirtual 60, 3) := by decide +kernel
theorem d_Row_takeBits_5 : decode b_Row_takeBits 5 = .ok (.istore_n 2, 1) := by decide +kernel
theorem d_Row_takeBits_6 : decode b_Row_takeBits 6 = .ok (.aload_n 0, 1) := by decide +kernel
theorem d_Row_takeBits_7 : decode b_Row_takeBits 7 = .ok (.dup, 1) := by decide +kernel
theorem d_Row_takeBits_8 : decode b_Row_takeBits 8 = .ok (.getfield 53, 3) := by decide +kernel
theorem d_Row_takeBits_11 : decode b_Row_takeBits 11 = .ok (.iload_n 1, 1) := by decide +kernel
theorem d_Row_takeBits_12 : decode b_Row_takeBits 12 = .ok (.iadd, 1) := by decide +kernel
theorem d_Row_takeBits_13 : decode b_Row_takeBits 13 = .ok (.putfield 53, 3) := by decide +kernel
theorem d_Row_takeBits_16 : decode b_Row_takeBits 16 = .ok (.iload_n 2, 1) := by decide +kernel
theorem d_Row_takeBits_17 : decode b_Row_takeBits 17 = .ok (.ireturn, 1) := by decide +kernel
theorem d_Row_bytesTaken_0 : decode b_Row_bytesTaken 0 = .ok (.aload_n 0, 1) := by decide +kernel
theorem d_Row_bytesTaken_1 : decode b_Row_bytesTaken 1 = .ok (.getfield 53, 3) := by decide +kernel
theorem d_Row_bytesTaken_4 : decode b_Row_bytesTaken 4 = .ok (.bipush 7, 2) := by decide +kernel
theorem d_Row_bytesTaken_6 : decode b_Row_bytesTaken 6 = .ok (.iadd, 1) := by decide +kernel
theorem d_Row_bytesTaken_7 : decode b_Row_bytesTaken 7 = .ok (.iconst 3, 1) := by decide +kernel
theorem d_Row_bytesTaken_8 : decode b_Row_bytesTaken 8 = .ok (.ishr, 1) := by decide +kernel
theorem d_Row_bytesTaken_9 : decode b_Row_bytesTaken 9 = .ok (.ireturn, 1) := by decide +kernel
theorem d_Row_putBits_0 : decode b_Row_putBits 0 = .ok (.aload_n 0, 1) := by decide +kernel
theorem d_Row_putBits_1 : decode b_Row_putBits 1 = .ok (.dup, 1) := by decide +kernel
theorem d_Row_putBits_2 : decode b_Row_putBits 2 = .ok (.getfield 19, 3) := by decide +kernel
theorem d_Row_putBits_5 : decode b_Row_putBits 5 = .ok (.iload_n 1, 1) := by decide +kernel
theorem d_Row_putBits_6 : decode b_Row_putBits 6 = .ok (.aload_n 0, 1) := by decide +kernel
theorem d_Row_putBits_7 : decode b_Row_putBits 7 = .ok (.getfield 22, 3) := by decide +kernel
theorem d_Row_putBits_10 : decode b_Row_putBits 10 = .ok (.ishl, 1) := by decide +kernel
theorem d_Row_putBits_11 : decode b_Row_putBits 11 = .ok (.ior, 1) := by decide +kernel
theorem d_Row_putBits_12 : decode b_Row_putBits 12 = .ok (.putfield 19, 3) := by decide +kernel
theorem d_Row_putBits_15 : decode b_Row_putBits 15 = .ok (.aload_n 0, 1) := by decide +kernel
theorem d_Row_putBits_16 : decode b_Row_putBits 16 = .ok (.dup, 1) := by decide +kernel
theorem d_Row_putBits_17 : decode b_Row_putBits 17 = .ok (.getfield 22, 3) := by decide +kernel
theorem d_Row_putBits_20 : decode b_Row_putBits 20 = .ok (.iload_n 2, 1) := by decide +kernel
theorem d_Row_putBits_21 : decode b_Row_putBits 21 = .ok (.iadd, 1) := by decide +kernel
theorem d_Row_putBits_22 : decode b_Row_putBits 22 = .ok (.putfield 22, 3) := by decide +kernel
theorem d_Row_putBits_25 : decode b_Row_putBits 25 = .ok (.aload_n 0, 1) := by decide +kernel
theorem d_Row_putBits_26 : decode b_Row_putBits 26 = .ok (.getfield 22, 3) := by decide +kernel
theorem d_Row_putBits_29 : decode b_Row_putBits 29 = .ok (.bipush 8, 2) := by decide +kernel
theorem d_Row_putBits_31 : decode b_Row_putBits 31 = .ok (.if_icmp .lt 40, 3) := by decide +kernel
theorem d_Row_putBits_34 : decode b_Row_putBits 34 = .ok (.aload_n 0, 1) := by decide +kernel
theorem d_Row_putBits_35 : decode b_Row_putBits 35 = .ok (.aload_n 0, 1) := by decide +kernel
theorem d_Row_putBits_36 : decode b_Row_putBits 36 = .ok (.getfield 19, 3) := by decide +kernel
theorem d_Row_putBits_39 : decode b_Row_putBits 39 = .ok (.sipush 255, 3) := by decide +kernel
theorem d_Row_putBits_42 : decode b_Row_putBits 42 = .ok (.iand, 1) := by decide +kernel
theorem d_Row_putBits_43 : decode b_Row_putBits 43 = .ok (.invokevirtual 38, 3) := by decide +kernel
theorem d_Row_putBits_46 : decode b_Row_putBits 46 = .ok (.aload_n 0, 1) := by decide +kernel
theorem d_Row_putBits_47 : decode b_Row_putBits 47 = .ok (.dup, 1) := by decide +kernel
theorem d_Row_putBits_48 : decode b_Row_putBits 48 = .ok (.getfield 19, 3) := by decide +kernel
theorem d_Row_putBits_51 : decode b_Row_putBits 51 = .ok (.bipush 8, 2) := by decide +kernel
theorem d_Row_putBits_53 : decode b_Row_putBits 53 = .ok (.ishr, 1) := by decide +kernel
theorem d_Row_putBits_54 : decode b_Row_putBits 54 = .ok (.putfield 19, 3) := by decide +kernel
theorem d_Row_putBits_57 : decode b_Row_putBits 57 = .ok (.aload_n 0, 1) := by decide +kernel
theorem d_Row_putBits_58 : decode b_Row_putBits 58 = .ok (.dup, 1) := by decide +kernel
theorem d_Row_putBits_59 : decode b_Row_putBits 59 = .ok (.getfield 22, 3) := by decide +kernel
theorem d_Row_putBits_62 : decode b_Row_putBits 62 = .ok (.bipush 8, 2) := by decide +kernel
theorem d_Row_putBits_64 : decode b_Row_putBits 64 = .ok (.isub, 1) := by decide +kernel
theorem d_Row_putBits_65 : decode b_Row_putBits 65 = .ok (.putfield 22, 3) := by decide +kernel
theorem d_Row_putBits_68 : decode b_Row_putBits 68 = .ok (.goto (-43), 3) := by decide +kernel
theorem d_Row_putBits_71 : decode b_Row_putBits 71 = .ok (.return_, 1) := by decide +kernel
theorem d_Row_closeBits_0 : decode b_Row_closeBits 0 = .ok (.aload_n 0, 1) := by decide +kernel
theorem d_Row_closeBits_1 : decode b_Row_closeBits 1 = .ok (.getfield 22, 3) := by decide +kernel
theorem d_Row_closeBits_4 : decode b_Row_closeBits 4 = .ok (.ifCond .le 15, 3) := by decide +kernel
theorem d_Row_closeBits_7 : decode b_Row_closeBits 7 = .ok (.aload_n 0, 1) := by decide +kernel
theorem d_Row_closeBits_8 : decode b_Row_closeBits 8 = .ok (.iconst 0, 1) := by decide +kernel
theorem d_Row_closeBits_9 : decode b_Row_closeBits 9 = .ok (.bipush 8, 2) := by decide +kernel
theorem d_Row_closeBits_11 : decode b_Row_closeBits 11 = .ok (.aload_n 0, 1) := by decide +kernel
theorem d_Row_closeBits_12 : decode b_Row_closeBits 12 = .ok (.getfield 22, 3) := by decide +kernel
theorem d_Row_closeBits_15 : decode b_Row_closeBits 15 = .ok (.isub, 1) := by decide +kernel
theorem d_Row_closeBits_16 : decode b_Row_closeBits 16 = .ok (.invokevirtual 42, 3) := by decide +kernel
theorem d_Row_closeBits_19 : decode b_Row_closeBits 19 = .ok (.return_, 1) := by decide +kernel
theorem d_Row_copyFrom_0 : decode b_Row_copyFrom 0 = .ok (.aload_n 0, 1) := by decide +kernel
theorem d_Row_copyFrom_1 : decode b_Row_copyFrom 1 = .ok (.invokevirtual 29, 3) := by decide +kernel
theorem d_Row_copyFrom_4 : decode b_Row_copyFrom 4 = .ok (.aload_n 1, 1) := by decide +kernel
theorem d_Row_copyFrom_5 : decode b_Row_copyFrom 5 = .ok (.getfield 9, 3) := by decide +kernel
theorem d_Row_copyFrom_8 : decode b_Row_copyFrom 8 = .ok (.iconst 0, 1) := by decide +kernel
theorem d_Row_copyFrom_9 : decode b_Row_copyFrom 9 = .ok (.aload_n 0, 1) := by decide +kernel
theorem d_Row_copyFrom_10 : decode b_Row_copyFrom 10 = .ok (.getfield 9, 3) := by decide +kernel
theorem d_Row_copyFrom_13 : decode b_Row_copyFrom 13 = .ok (.iconst 0, 1) := by decide +kernel
theorem d_Row_copyFrom_14 : decode b_Row_copyFrom 14 = .ok (.sipush 6000, 3) := by decide +kernel
theorem d_Row_copyFrom_17 : decode b_Row_copyFrom 17 = .ok (.invokestatic 32, 3) := by decide +kernel
theorem d_Row_copyFrom_20 : decode b_Row_copyFrom 20 = .ok (.aload_n 0, 1) := by decide +kernel
theorem d_Row_copyFrom_21 : decode b_Row_copyFrom 21 = .ok (.aload_n 1, 1) := by decide +kernel
theorem d_Row_copyFrom_22 : decode b_Row_copyFrom 22 = .ok (.getfield 15, 3) := by decide +kernel
theorem d_Row_copyFrom_25 : decode b_Row_copyFrom 25 = .ok (.putfield 15, 3) := by decide +kernel
theorem d_Row_copyFrom_28 : decode b_Row_copyFrom 28 = .ok (.return_, 1) := by decide +kernel
theorem d_Row_init_0 : decode b_Row_init 0 = .ok (.aload_n 0, 1) := by decide +kernel
theorem d_Row_init_1 : decode b_Row_init 1 = .ok (.invokespecial 3, 3) := by decide +kernel
theorem d_Row_init_4 : decode b_Row_init 4 = .ok (.aload_n 0, 1) := by decide +kernel
theorem d_Row_init_5 : decode b_Row_init 5 = .ok (.sipush 6000, 3) := by decide +kernel
theorem d_Row_init_8 : decode b_Row_init 8 = .ok (.newarray .byte, 2) := by decide +kernel
theorem d_Row_init_10 : decode b_Row_init 10 = .ok (.putfield 9, 3) := by decide +kernel
theorem d_Row_init_13 : decode b_Row_init 13 = .ok (.return_, 1) := by decide +kernel
abbrev rm_Row_length : Room := { frames := 0, cells := 0, slots := 0, locals := 0 }
set_option maxHeartbeats 4000000 in
set_option maxRecDepth 100000 in
theorem c_Row_length (l : Launch) (D : va_G) (cI cB cZ : ClassId) (h : Nat) (hb : Nat) (L : Int) (hd : Int) (hn : Int) (ov : Int) (ts : Int) (tb : Int) : Met l y_Row_length (.code y_Row_length b_Row_length 1 (some .int) :: zT) rm_Row_length (zRc D classes (TY cI cB cZ) [(h, .inr (0, [.ref hb, .int (iZ L), .int (iZ hd), .int (iZ hn), .int (iZ ov), .int (iZ ts), .int (iZ tb)]))] [.ref h]) (zSi (fun z => z = L)) 0 0 (fun _ => False) := by
  refine z_ofr (by decide) (Nat.le_of_ble_eq_true rfl) (Or.inl rfl) ?_
  intro p e s m args below meth c Q E jP jK jret ls jl
  obtain ⟨jx, jb, jrt, jml, jown, jts, jlk⟩ := E
  have jown : s.vm.findClass R_Row = some m.cls := jown
  have jl : lv_has ls 1 [(0, .ref h)] := jl
  refine lv_aload_n jx jb d_Row_length_0 rfl (lv_at jl 0 rfl) ?_
  refine va_get (D := D) (ci := 0) (v := .int (iZ L)) (C := R_Row) (T := F_Row) (N := 7) jx jb jts i_Row jown jK.1 jP 0 rfl rfl 1 (by decide) (jts _ fl_Row_15) (fun _ h9 => h9) rfl d_Row_length_1 ?_
  exact jret _ _ _ (Or.inl rfl) (rfl) d_Row_length_4
abbrev rm_Row_isOverfull : Room := { frames := 0, cells := 0, slots := 0, locals := 0 }
set_option maxHeartbeats 4000000 in
set_option maxRecDepth 100000 in
theorem c_Row_isOverfull (l : Launch) (D : va_G) (cI cB cZ : ClassId) (h : Nat) (hb : Nat) (L : Int) (hd : Int) (hn : Int) (ov : Int) (ts : Int) (tb : Int) (hov : ov = 0 ∨ ov = 1) : Met l y_Row_isOverfull (.code y_Row_isOverfull b_Row_isOverfull 1 (some .boolean) :: zT) rm_Row_isOverfull (zRc D classes (TY cI cB cZ) [(h, .inr (0, [.ref hb, .int (iZ L), .int (iZ hd), .int (iZ hn), .int (iZ ov), .int (iZ ts), .int (iZ tb)]))] [.ref h]) (zSi (fun z => z = ov)) 0 0 (fun _ => False) := by
  refine z_ofr (by decide) (Nat.le_of_ble_eq_true rfl) (Or.inr rfl) ?_
  intro p e s m args below meth c Q E jP jK jret ls jl
  obtain ⟨jx, jb, jrt, jml, jown, jts, jlk⟩ := E
  have jown : s.vm.findClass R_Row = some m.cls := jown
  have jl : lv_has ls 1 [(0, .ref h)] := jl
  refine lv_aload_n jx jb d_Row_isOverfull_0 rfl (lv_at jl 0 rfl) ?_
  refine va_get (D := D) (ci := 0) (v := .int (iZ ov)) (C := R_Row) (T := F_Row) (N := 7) jx jb jts i_Row jown jK.1 jP 0 rfl rfl 4 (by decide) (jts _ fl_Row_25) (fun _ h9 => h9) rfl d_Row_isOverfull_1 ?_
  exact jret _ _ _ (Or.inr (hov)) (rfl) d_Row_isOverfull_4
abbrev rm_Row_empty : Room := { frames := 0, cells := 0, slots := 0, locals := 0 }
set_option maxHeartbeats 4000000 in
set_option maxRecDepth 100000 in
theorem c_Row_empty (l : Launch) (D : va_G) (cI cB cZ : ClassId) (sz : Nat) (h : Nat) (hb : Nat) (L : Int) (hd : Int) (hn : Int) (ov : Int) (ts : Int) (tb : Int) : Met l y_Row_empty (.code y_Row_empty b_Row_empty 1 none :: zT) rm_Row_empty (zPc D classes (TY cI cB cZ) [(h, .inr (0, [.ref hb, .int (iZ L), .int (iZ hd), .int (iZ hn), .int (iZ ov), .int (iZ ts), .int (iZ tb)]))] sz [.ref h]) (zFv (S := Unit) D classes (fun _u => True) (fun _u => [(h, .inr (0, [.ref hb, .int (iZ 0), .int (iZ 0), .int (iZ 0), .int (iZ 0), .int (iZ ts), .int (iZ tb)]))]) (va_A [(h, .inr (0, [.ref hb, .int (iZ L), .int (iZ hd), .int (iZ hn), .int (iZ ov), .int (iZ ts), .int (iZ tb)]))] sz)) 0 0 (va_A [(h, .inr (0, [.ref hb, .int (iZ L), .int (iZ hd), .int (iZ hn), .int (iZ ov), .int (iZ ts), .int (iZ tb)]))] sz) := by
  refine z_ofv (by decide) (Nat.le_of_ble_eq_true rfl) rfl ?_
  intro p e s m args below meth c A Q E jmn jA jK jret H locs jP jD jS ls jl
  obtain ⟨jx, jb, jrt, jml, jown, jts, jlk⟩ := E
  have jown : s.vm.findClass R_Row = some m.cls := jown
  have jl : lv_has ls 1 [(0, .ref h)] := jl
  refine lv_aload_n jx jb d_Row_empty_0 rfl (lv_at jl 0 rfl) ?_
  refine lv_iconst (v := iZ 0) jx jb d_Row_empty_1 rfl ?_
  refine va_put (D := D) (ci := 0) (v := .int (iZ 0)) (ty := .int) (C := R_Row) (T := F_Row) (N := 7) jx jb jts i_Row t_Row t_Row_ok n_Row jown jK.1 jP jD jS 0 rfl rfl 1 (by decide) (jts _ fl_Row_15) (fun _ h9 => h9) rfl (by decide +kernel) rfl rfl (Nat.le_of_ble_eq_true rfl) d_Row_empty_2 (fun H locs jP jD jS => ?_)
  have jP : va_P D classes [(h, .inr (0, [.ref hb, .int (iZ 0), .int (iZ hd), .int (iZ hn), .int (iZ ov), .int (iZ ts), .int (iZ tb)]))] H := jP
  have jD : va_D A [(h, .inr (0, [.ref hb, .int (iZ 0), .int (iZ hd), .int (iZ hn), .int (iZ ov), .int (iZ ts), .int (iZ tb)]))] := jD
  refine lv_aload_n jx jb d_Row_empty_5 rfl (lv_at jl 0 rfl) ?_
  refine lv_iconst (v := iZ 0) jx jb d_Row_empty_6 rfl ?_
  refine va_put (D := D) (ci := 0) (v := .int (iZ 0)) (ty := .int) (C := R_Row) (T := F_Row) (N := 7) jx jb jts i_Row t_Row t_Row_ok n_Row jown jK.1 jP jD jS 0 rfl rfl 2 (by decide) (jts _ fl_Row_19) (fun _ h9 => h9) rfl (by decide +kernel) rfl rfl (Nat.le_of_ble_eq_true rfl) d_Row_empty_7 (fun H locs jP jD jS => ?_)
  have jP : va_P D classes [(h, .inr (0, [.ref hb, .int (iZ 0), .int (iZ 0), .int (iZ hn), .int (iZ ov), .int (iZ ts), .int (iZ tb)]))] H := jP
  have jD : va_D A [(h, .inr (0, [.ref hb, .int (iZ 0), .int (iZ 0), .int (iZ hn), .int (iZ ov), .int (iZ ts), .int (iZ tb)]))] := jD
  refine lv_aload_n jx jb d_Row_empty_10 rfl (lv_at jl 0 rfl) ?_
  refine lv_iconst (v := iZ 0) jx jb d_Row_empty_11 rfl ?_
  refine va_put (D := D) (ci := 0) (v := .int (iZ 0)) (ty := .int) (C := R_Row) (T := F_Row) (N := 7) jx jb jts i_Row t_Row t_Row_ok n_Row jown jK.1 jP jD jS 0 rfl rfl 3 (by decide) (jts _ fl_Row_22) (fun _ h9 => h9) rfl (by decide +kernel) rfl rfl (Nat.le_of_ble_eq_true rfl) d_Row_empty_12 (fun H locs jP jD jS => ?_)
  have jP : va_P D classes [(h, .inr (0, [.ref hb, .int (iZ 0), .int (iZ 0), .int (iZ 0), .int (iZ ov), .int (iZ ts), .int (iZ tb)]))] H := jP
  have jD : va_D A [(h, .inr (0, [.ref hb, .int (iZ 0), .int (iZ 0), .int (iZ 0), .int (iZ ov), .int (iZ ts), .int (iZ tb)]))] := jD
  refine lv_aload_n jx jb d_Row_empty_15 rfl (lv_at jl 0 rfl) ?_
  refine lv_iconst (v := iZ 0) jx jb d_Row_empty_16 rfl ?_
  refine va_put (D := D) (ci := 0) (v := .int (iZ 0)) (ty := .boolean) (C := R_Row) (T := F_Row) (N := 7) jx jb jts i_Row t_Row t_Row_ok n_Row jown jK.1 jP jD jS 0 rfl rfl 4 (by decide) (jts _ fl_Row_25) (fun _ h9 => h9) rfl (by decide +kernel) rfl rfl (Nat.le_of_ble_eq_true rfl) d_Row_empty_17 (fun H locs jP jD jS => ?_)
  have jP : va_P D classes [(h, .inr (0, [.ref hb, .int (iZ 0), .int (iZ 0), .int (iZ 0), .int (iZ 0), .int (iZ ts), .int (iZ tb)]))] H := jP
  have jD : va_D A [(h, .inr (0, [.ref hb, .int (iZ 0), .int (iZ 0), .int (iZ 0), .int (iZ 0), .int (iZ ts), .int (iZ tb)]))] := jD
  exact jret _ _ () _ _ (trivial) (jP.sub [0] rfl) (jD.sub [0] (by decide) rfl) jS d_Row_empty_20
abbrev rm_Row_add : Room := { frames := 0, cells := 0, slots := 0, locals := 0 }
set_option maxHeartbeats 4000000 in
set_option maxRecDepth 100000 in
theorem c_Row_add (l : Launch) (D : va_G) (cI cB cZ : ClassId) (sz : Nat) (h : Nat) (hb : Nat) (L : Int) (hd : Int) (hn : Int) (ov : Int) (ts : Int) (tb : Int) (f : Nat → Int) (b : Int) (hL : 0 ≤ L ∧ L ≤ 6000) : Met l y_Row_add (.code y_Row_add b_Row_add 2 none :: zT) rm_Row_add (zPc D classes (TY cI cB cZ) [(h, .inr (0, [.ref hb, .int (iZ L), .int (iZ hd), .int (iZ hn), .int (iZ ov), .int (iZ ts), .int (iZ tb)])), (hb, .inl (cB, 6000, .inl (zA f)))] sz [.ref h, .int (iZ b)]) (zFv (S := Int × Int × (Nat → Int)) D classes (fun u => rAdd L ov f b u.1 u.2.1 u.2.2) (fun u => [(h, .inr (0, [.ref hb, .int (iZ u.1), .int (iZ hd), .int (iZ hn), .int (iZ u.2.1), .int (iZ ts), .int (iZ tb)])), (hb, .inl (cB, 6000, .inl (zA u.2.2)))]) (va_A [(h, .inr (0, [.ref hb, .int (iZ L), .int (iZ hd), .int (iZ hn), .int (iZ ov), .int (iZ ts), .int (iZ tb)])), (hb, .inl (cB, 6000, .inl (zA f)))] sz)) 0 0 (va_A [(h, .inr (0, [.ref hb, .int (iZ L), .int (iZ hd), .int (iZ hn), .int (iZ ov), .int (iZ ts), .int (iZ tb)])), (hb, .inl (cB, 6000, .inl (zA f)))] sz) := by
  refine z_ofv (by decide) (Nat.le_of_ble_eq_true rfl) rfl ?_
  intro p e s m args below meth c A Q E jmn jA jK jret H locs jP jD jS ls jl
  obtain ⟨jx, jb, jrt, jml, jown, jts, jlk⟩ := E
  have jown : s.vm.findClass R_Row = some m.cls := jown
  have jl : lv_has ls 2 [(0, .ref h), (1, .int (iZ b))] := jl
  refine lv_aload_n jx jb d_Row_add_0 rfl (lv_at jl 0 rfl) ?_
  refine va_get (D := D) (ci := 0) (v := .int (iZ L)) (C := R_Row) (T := F_Row) (N := 7) jx jb jts i_Row jown jK.1 jP 0 rfl rfl 1 (by decide) (jts _ fl_Row_15) (fun _ h9 => h9) rfl d_Row_add_1 ?_
  refine z_if_lt (tgt := 41) jx jb d_Row_add_4 (by decide) ⟨by omega, by omega⟩ (fun hc4 => ?_) (fun hc4 => ?_)
  ·
    exfalso; omega
  ·
    refine lv_aload_n jx jb d_Row_add_7 rfl (lv_at jl 0 rfl) ?_
    refine va_get (D := D) (ci := 0) (v := .int (iZ L)) (C := R_Row) (T := F_Row) (N := 7) jx jb jts i_Row jown jK.1 jP 0 rfl rfl 1 (by decide) (jts _ fl_Row_15) (fun _ h9 => h9) rfl d_Row_add_8 ?_
    refine lv_sipush (v := iZ 6000) jx jb d_Row_add_11 (by decide) ?_
    refine z_icmp_ge (tgt := 41) jx jb d_Row_add_14 (by decide) ⟨⟨by omega, by omega⟩, ⟨by decide, by decide⟩⟩ (fun hc14 => ?_) (fun hc14 => ?_)
    ·
      refine lv_aload_n jx jb d_Row_add_41 rfl (lv_at jl 0 rfl) ?_
      refine lv_iconst (v := iZ 1) jx jb d_Row_add_42 rfl ?_
      refine va_put (D := D) (ci := 0) (v := .int (iZ 1)) (ty := .boolean) (C := R_Row) (T := F_Row) (N := 7) jx jb jts i_Row t_Row t_Row_ok n_Row jown jK.1 jP jD jS 0 rfl rfl 4 (by decide) (jts _ fl_Row_25) (fun _ h9 => h9) rfl (by decide +kernel) rfl rfl (Nat.le_of_ble_eq_true rfl) d_Row_add_43 (fun H locs jP jD jS => ?_)
      have jP : va_P D classes [(h, .inr (0, [.ref hb, .int (iZ L), .int (iZ hd), .int (iZ hn), .int (iZ 1), .int (iZ ts), .int (iZ tb)])), (hb, .inl (cB, 6000, .inl (zA f)))] H := jP
      have jD : va_D A [(h, .inr (0, [.ref hb, .int (iZ L), .int (iZ hd), .int (iZ hn), .int (iZ 1), .int (iZ ts), .int (iZ tb)])), (hb, .inl (cB, 6000, .inl (zA f)))] := jD
      exact jret _ _ (L, 1, f) _ _ (by first | exact Or.inl ⟨by omega, rfl, rfl, by rw [bm_bm]⟩ | exact Or.inr ⟨by omega, rfl, rfl, rfl⟩) (jP.sub [0, 1] rfl) (jD.sub [0, 1] (by decide) rfl) jS d_Row_add_46
    ·
      refine lv_aload_n jx jb d_Row_add_17 rfl (lv_at jl 0 rfl) ?_
      refine va_get (D := D) (ci := 0) (v := .ref hb) (C := R_Row) (T := F_Row) (N := 7) jx jb jts i_Row jown jK.1 jP 0 rfl rfl 0 (by decide) (jts _ fl_Row_9) (fun _ h9 => h9) rfl d_Row_add_18 ?_
      refine lv_aload_n jx jb d_Row_add_21 rfl (lv_at jl 0 rfl) ?_
      refine va_get (D := D) (ci := 0) (v := .int (iZ L)) (C := R_Row) (T := F_Row) (N := 7) jx jb jts i_Row jown jK.1 jP 0 rfl rfl 1 (by decide) (jts _ fl_Row_15) (fun _ h9 => h9) rfl d_Row_add_22 ?_
      refine lv_iload_n jx jb d_Row_add_25 rfl (lv_at jl 1 rfl) ?_
      refine z_i2b jx jb d_Row_add_26 ?_
      refine z_bast jx jb jK.1 jP jD jS 1 1 rfl rfl L.toNat (by omega) d_Row_add_27 (fun H locs jP jD jS => ?_)
      have jP : va_P D classes [(h, .inr (0, [.ref hb, .int (iZ L), .int (iZ hd), .int (iZ hn), .int (iZ ov), .int (iZ ts), .int (iZ tb)])), (hb, .inl (cB, 6000, .inl (zA (zu f L.toNat ((b.bmod 256).bmod 256)))))] H := jP
      have jD : va_D A [(h, .inr (0, [.ref hb, .int (iZ L), .int (iZ hd), .int (iZ hn), .int (iZ ov), .int (iZ ts), .int (iZ tb)])), (hb, .inl (cB, 6000, .inl (zA (zu f L.toNat ((b.bmod 256).bmod 256)))))] := jD
      refine lv_aload_n jx jb d_Row_add_28 rfl (lv_at jl 0 rfl) ?_
      refine lv_dup jx jb d_Row_add_29 rfl ?_
      refine va_get (D := D) (ci := 0) (v := .int (iZ L)) (C := R_Row) (T := F_Row) (N := 7) jx jb jts i_Row jown jK.1 jP 0 rfl rfl 1 (by decide) (jts _ fl_Row_15) (fun _ h9 => h9) rfl d_Row_add_30 ?_
      refine lv_iconst (v := iZ 1) jx jb d_Row_add_33 rfl ?_
      refine z_iadd jx jb d_Row_add_34 ?_
      refine va_put (D := D) (ci := 0) (v := .int (iZ (L + 1))) (ty := .int) (C := R_Row) (T := F_Row) (N := 7) jx jb jts i_Row t_Row t_Row_ok n_Row jown jK.1 jP jD jS 0 rfl rfl 1 (by decide) (jts _ fl_Row_15) (fun _ h9 => h9) rfl (by decide +kernel) rfl rfl (Nat.le_of_ble_eq_true rfl) d_Row_add_35 (fun H locs jP jD jS => ?_)
      have jP : va_P D classes [(h, .inr (0, [.ref hb, .int (iZ (L + 1)), .int (iZ hd), .int (iZ hn), .int (iZ ov), .int (iZ ts), .int (iZ tb)])), (hb, .inl (cB, 6000, .inl (zA (zu f L.toNat ((b.bmod 256).bmod 256)))))] H := jP
      have jD : va_D A [(h, .inr (0, [.ref hb, .int (iZ (L + 1)), .int (iZ hd), .int (iZ hn), .int (iZ ov), .int (iZ ts), .int (iZ tb)])), (hb, .inl (cB, 6000, .inl (zA (zu f L.toNat ((b.bmod 256).bmod 256)))))] := jD
      refine lv_goto (tgt := 46) jx jb d_Row_add_38 (by decide) ?_
      exact jret _ _ ((L + 1), ov, (zu f L.toNat ((b.bmod 256).bmod 256))) _ _ (by first | exact Or.inl ⟨by omega, rfl, rfl, by rw [bm_bm]⟩ | exact Or.inr ⟨by omega, rfl, rfl, rfl⟩) (jP.sub [0, 1] rfl) (jD.sub [0, 1] (by decide) rfl) jS d_Row_add_46
abbrev rm_Row_byteOrZero : Room := { frames := 0, cells := 0, slots := 0, locals := 0 }
set_option maxHeartbeats 4000000 in
set_option maxRecDepth 100000 in
theorem c_Row_byteOrZero (l : Launch) (D : va_G) (cI cB cZ : ClassId) (h : Nat) (hb : Nat) (L : Int) (hd : Int) (hn : Int) (ov : Int) (ts : Int) (tb : Int) (f : Nat → Int) (k : Int) (hL : 0 ≤ L ∧ L ≤ 6000) (hk : -2147483648 ≤ k ∧ k < 2147483648) : Met l y_Row_byteOrZero (.code y_Row_byteOrZero b_Row_byteOrZero 2 (some .int) :: zT) rm_Row_byteOrZero (zRc D classes (TY cI cB cZ) [(h, .inr (0, [.ref hb, .int (iZ L), .int (iZ hd), .int (iZ hn), .int (iZ ov), .int (iZ ts), .int (iZ tb)])), (hb, .inl (cB, 6000, .inl (zA f)))] [.ref h, .int (iZ k)]) (zSi (fun z => z = rb8 f L k)) 0 0 (fun _ => False) := by
  refine z_ofr (by decide) (Nat.le_of_ble_eq_true rfl) (Or.inl rfl) ?_
  intro p e s m args below meth c Q E jP jK jret ls jl
  obtain ⟨jx, jb, jrt, jml, jown, jts, jlk⟩ := E
  have jown : s.vm.findClass R_Row = some m.cls := jown
  have jl : lv_has ls 2 [(0, .ref h), (1, .int (iZ k))] := jl
  refine lv_iload_n jx jb d_Row_byteOrZero_0 rfl (lv_at jl 1 rfl) ?_
  refine z_if_lt (tgt := 19) jx jb d_Row_byteOrZero_1 (by decide) ⟨by omega, by omega⟩ (fun hc1 => ?_) (fun hc1 => ?_)
  ·
    refine lv_iconst (v := iZ 0) jx jb d_Row_byteOrZero_19 rfl ?_
    refine lv_goto (tgt := 33) jx jb d_Row_byteOrZero_20 (by decide) ?_
    exact jret _ _ _ (Or.inl rfl) (by first | exact (if_neg (by omega)).symm | exact (if_pos (by omega)).symm) d_Row_byteOrZero_33
  ·
    refine lv_iload_n jx jb d_Row_byteOrZero_4 rfl (lv_at jl 1 rfl) ?_
    refine lv_aload_n jx jb d_Row_byteOrZero_5 rfl (lv_at jl 0 rfl) ?_
    refine va_get (D := D) (ci := 0) (v := .int (iZ L)) (C := R_Row) (T := F_Row) (N := 7) jx jb jts i_Row jown jK.1 jP 0 rfl rfl 1 (by decide) (jts _ fl_Row_15) (fun _ h9 => h9) rfl d_Row_byteOrZero_6 ?_
    refine z_icmp_ge (tgt := 19) jx jb d_Row_byteOrZero_9 (by decide) ⟨⟨by omega, by omega⟩, ⟨by omega, by omega⟩⟩ (fun hc9 => ?_) (fun hc9 => ?_)
    ·
      refine lv_iconst (v := iZ 0) jx jb d_Row_byteOrZero_19 rfl ?_
      refine lv_goto (tgt := 33) jx jb d_Row_byteOrZero_20 (by decide) ?_
      exact jret _ _ _ (Or.inl rfl) (by first | exact (if_neg (by omega)).symm | exact (if_pos (by omega)).symm) d_Row_byteOrZero_33
    ·
      refine lv_iload_n jx jb d_Row_byteOrZero_12 rfl (lv_at jl 1 rfl) ?_
      refine lv_sipush (v := iZ 6000) jx jb d_Row_byteOrZero_13 (by decide) ?_
      refine z_icmp_lt (tgt := 23) jx jb d_Row_byteOrZero_16 (by decide) ⟨⟨by omega, by omega⟩, ⟨by decide, by decide⟩⟩ (fun hc16 => ?_) (fun hc16 => ?_)
      ·
        refine lv_aload_n jx jb d_Row_byteOrZero_23 rfl (lv_at jl 0 rfl) ?_
        refine va_get (D := D) (ci := 0) (v := .ref hb) (C := R_Row) (T := F_Row) (N := 7) jx jb jts i_Row jown jK.1 jP 0 rfl rfl 0 (by decide) (jts _ fl_Row_9) (fun _ h9 => h9) rfl d_Row_byteOrZero_24 ?_
        refine lv_iload_n jx jb d_Row_byteOrZero_27 rfl (lv_at jl 1 rfl) ?_
        refine z_bald jx jb jK.1 jP 1 1 rfl rfl k.toNat (by omega) d_Row_byteOrZero_28 ?_
        refine lv_sipush (v := iZ 255) jx jb d_Row_byteOrZero_29 (by decide) ?_
        refine z_iand jx jb d_Row_byteOrZero_32 8 256 (rfl) (rfl) (by decide) ?_
        exact jret _ _ _ (Or.inl rfl) (by first | exact (if_neg (by omega)).symm | exact (if_pos (by omega)).symm) d_Row_byteOrZero_33
      ·
        exfalso; omega
abbrev rm_Row_number : Room := { frames := 1, cells := 0, slots := 0, locals := 21 }
set_option maxHeartbeats 4000000 in
set_option maxRecDepth 100000 in
theorem c_Row_number (l : Launch) (D : va_G) (cI cB cZ : ClassId) (h : Nat) (hb : Nat) (L : Int) (hd : Int) (hn : Int) (ov : Int) (ts : Int) (tb : Int) (f : Nat → Int) (a : Int) (t : Int) (n : Nat) (hL : 0 ≤ L ∧ L ≤ 6000) (ha : 0 ≤ a ∧ a ≤ 100000 ∧ 0 ≤ t ∧ t ≤ 1000000) (hn13 : n ≤ 13) : Met l y_Row_number (.code y_Row_number b_Row_number 6 (some .int) :: zT) rm_Row_number (zRc D classes (TY cI cB cZ) [(h, .inr (0, [.ref hb, .int (iZ L), .int (iZ hd), .int (iZ hn), .int (iZ ov), .int (iZ ts), .int (iZ tb)])), (hb, .inl (cB, 6000, .inl (zA f)))] [.ref h, .int (iZ a), .int (iZ t), .int (iZ (n : Int))]) (zSi (fun z => z = rNum f L a t n)) 0 0 (fun _ => False) := by
  refine z_ofr (by decide) (Nat.le_of_ble_eq_true rfl) (Or.inl rfl) ?_
  intro p e s m args below meth c Q E jP jK jret ls jl
  obtain ⟨jx, jb, jrt, jml, jown, jts, jlk⟩ := E
  have jown : s.vm.findClass R_Row = some m.cls := jown
  have jl : lv_has ls 6 [(0, .ref h), (1, .int (iZ a)), (2, .int (iZ t)), (3, .int (iZ (n : Int)))] := jl
  refine lv_iload_n jx jb d_Row_number_0 rfl (lv_at jl 1 rfl) ?_
  refine lv_iload_n jx jb d_Row_number_1 rfl (lv_at jl 2 rfl) ?_
  refine lv_iconst (v := iZ 3) jx jb d_Row_number_2 rfl ?_
  refine z_ishr jx jb d_Row_number_3 3 8 (rfl) (by omega) ?_
  refine z_iadd jx jb d_Row_number_4 ?_
  refine lv_istore (lv' := [(4, .int (iZ (a + (t / 8)))), (0, .ref h), (1, .int (iZ a)), (2, .int (iZ t)), (3, .int (iZ (n : Int)))]) jx jb d_Row_number_5 jl (by decide) rfl (fun ls jl => ?_)
  refine lv_aload_n jx jb d_Row_number_7 rfl (lv_at jl 1 rfl) ?_
  refine lv_iload jx jb d_Row_number_8 (lv_at jl 0 rfl) ?_
  refine z_backe (va_runV (As := [.int (iZ (a + (t / 8)))]) (rest := []) ⟨jx, jb, jml, jown, jts⟩ (c_Row_byteOrZero l D cI cB cZ h hb L hd hn ov ts tb f (a + (t / 8)) (by first | assumption | omega) (by first | assumption | omega)) (zc_V 1 jts cd_Row_byteOrZero lk_Row_46 im_Row_byteOrZero se_Row_byteOrZero in_Row hd_Row_byteOrZero ⟨Nat.le_of_ble_eq_true rfl, Nat.le_of_ble_eq_true rfl⟩ rfl rfl) (z_preVR jK jP [0, 1] rfl rfl rfl) rfl rfl jl.1 rfl (lv_room (Nat.le_of_ble_eq_true rfl)) d_Row_number_10 ⟨Nat.le_of_ble_eq_true rfl, Nat.le_of_ble_eq_true rfl⟩) ?_
  have q10 := rb8_lo f L (a + t / 8)
  have r10 := rb8_hi f L (a + t / 8)
  refine lv_aload_n jx jb d_Row_number_13 rfl (lv_at jl 1 rfl) ?_
  refine lv_iload jx jb d_Row_number_14 (lv_at jl 0 rfl) ?_
  refine lv_iconst (v := iZ 1) jx jb d_Row_number_16 rfl ?_
  refine z_iadd jx jb d_Row_number_17 ?_
  refine z_backe (va_runV (As := [.int (iZ ((a + (t / 8)) + 1))]) (rest := [.int (iZ (rb8 f L (a + (t / 8))))]) ⟨jx, jb, jml, jown, jts⟩ (c_Row_byteOrZero l D cI cB cZ h hb L hd hn ov ts tb f ((a + (t / 8)) + 1) (by first | assumption | omega) (by first | assumption | omega)) (zc_V 1 jts cd_Row_byteOrZero lk_Row_46 im_Row_byteOrZero se_Row_byteOrZero in_Row hd_Row_byteOrZero ⟨Nat.le_of_ble_eq_true rfl, Nat.le_of_ble_eq_true rfl⟩ rfl rfl) (z_preVR jK jP [0, 1] rfl rfl rfl) rfl rfl jl.1 rfl (lv_room (Nat.le_of_ble_eq_true rfl)) d_Row_number_18 ⟨Nat.le_of_ble_eq_true rfl, Nat.le_of_ble_eq_true rfl⟩) ?_
  have q18 := rb8_lo f L (a + t / 8 + 1)
  have r18 := rb8_hi f L (a + t / 8 + 1)
  refine lv_bipush (v := iZ 8) jx jb d_Row_number_21 (by decide) ?_
  refine z_ishl jx jb d_Row_number_23 8 256 (rfl) (by omega) ?_
  refine z_ior jx jb d_Row_number_24 8 256 (rfl) (rb8 f L (a + t / 8 + 1)) (rfl) (by omega) ?_
  refine lv_aload_n jx jb d_Row_number_25 rfl (lv_at jl 1 rfl) ?_
  refine lv_iload jx jb d_Row_number_26 (lv_at jl 0 rfl) ?_
  refine lv_iconst (v := iZ 2) jx jb d_Row_number_28 rfl ?_
  refine z_iadd jx jb d_Row_number_29 ?_
  refine z_backe (va_runV (As := [.int (iZ ((a + (t / 8)) + 2))]) (rest := [.int (iZ ((rb8 f L (a + (t / 8))) + (rb8 f L (a + t / 8 + 1)) * 256))]) ⟨jx, jb, jml, jown, jts⟩ (c_Row_byteOrZero l D cI cB cZ h hb L hd hn ov ts tb f ((a + (t / 8)) + 2) (by first | assumption | omega) (by first | assumption | omega)) (zc_V 1 jts cd_Row_byteOrZero lk_Row_46 im_Row_byteOrZero se_Row_byteOrZero in_Row hd_Row_byteOrZero ⟨Nat.le_of_ble_eq_true rfl, Nat.le_of_ble_eq_true rfl⟩ rfl rfl) (z_preVR jK jP [0, 1] rfl rfl rfl) rfl rfl jl.1 rfl (lv_room (Nat.le_of_ble_eq_true rfl)) d_Row_number_30 ⟨Nat.le_of_ble_eq_true rfl, Nat.le_of_ble_eq_true rfl⟩) ?_
  have q30 := rb8_lo f L (a + t / 8 + 2)
  have r30 := rb8_hi f L (a + t / 8 + 2)
  refine lv_bipush (v := iZ 16) jx jb d_Row_number_33 (by decide) ?_
  refine z_ishl jx jb d_Row_number_35 16 65536 (rfl) (by omega) ?_
  refine z_ior jx jb d_Row_number_36 16 65536 (rfl) (rb8 f L (a + t / 8 + 2)) (rfl) (by omega) ?_
  refine lv_istore (lv' := [(5, .int (iZ (((rb8 f L (a + (t / 8))) + (rb8 f L (a + t / 8 + 1)) * 256) + (rb8 f L (a + t / 8 + 2)) * 65536))), (4, .int (iZ (a + (t / 8)))), (0, .ref h), (1, .int (iZ a)), (2, .int (iZ t)), (3, .int (iZ (n : Int)))]) jx jb d_Row_number_37 jl (by decide) rfl (fun ls jl => ?_)
  refine lv_iload jx jb d_Row_number_39 (lv_at jl 0 rfl) ?_
  refine lv_iload_n jx jb d_Row_number_41 rfl (lv_at jl 4 rfl) ?_
  refine lv_bipush (v := iZ 7) jx jb d_Row_number_42 (by decide) ?_
  refine z_iand jx jb d_Row_number_44 3 8 (rfl) (rfl) (by decide) ?_
  refine z_ishr jx jb d_Row_number_45 ((t % 8).toNat) (2 ^ ((t % 8).toNat)) (rfl) (by omega) ?_
  refine lv_iconst (v := iZ 1) jx jb d_Row_number_46 rfl ?_
  refine lv_iload_n jx jb d_Row_number_47 rfl (lv_at jl 5 rfl) ?_
  refine z_ishl jx jb d_Row_number_48 n (2 ^ n) (rfl) (by omega) ?_
  refine z_top (2 ^ n) (Int.one_mul _) ?_
  refine lv_iconst (v := iZ 1) jx jb d_Row_number_49 rfl ?_
  refine z_isub jx jb d_Row_number_50 ?_
  refine z_iand jx jb d_Row_number_51 n (2 ^ n) (rfl) (rfl) (by omega) ?_
  exact jret _ _ _ (Or.inl rfl) (rfl) d_Row_number_52
abbrev rm_Row_startTaking : Room := { frames := 0, cells := 0, slots := 0, locals := 0 }
set_option maxHeartbeats 4000000 in
set_option maxRecDepth 100000 in
theorem c_Row_startTaking (l : Launch) (D : va_G) (cI cB cZ : ClassId) (sz : Nat) (h : Nat) (hb : Nat) (L : Int) (hd : Int) (hn : Int) (ov : Int) (ts : Int) (tb : Int) (a : Int) : Met l y_Row_startTaking (.code y_Row_startTaking b_Row_startTaking 2 none :: zT) rm_Row_startTaking (zPc D classes (TY cI cB cZ) [(h, .inr (0, [.ref hb, .int (iZ L), .int (iZ hd), .int (iZ hn), .int (iZ ov), .int (iZ ts), .int (iZ tb)]))] sz [.ref h, .int (iZ a)]) (zFv (S := Unit) D classes (fun _u => True) (fun _u => [(h, .inr (0, [.ref hb, .int (iZ L), .int (iZ hd), .int (iZ hn), .int (iZ ov), .int (iZ a), .int (iZ 0)]))]) (va_A [(h, .inr (0, [.ref hb, .int (iZ L), .int (iZ hd), .int (iZ hn), .int (iZ ov), .int (iZ ts), .int (iZ tb)]))] sz)) 0 0 (va_A [(h, .inr (0, [.ref hb, .int (iZ L), .int (iZ hd), .int (iZ hn), .int (iZ ov), .int (iZ ts), .int (iZ tb)]))] sz) := by
  refine z_ofv (by decide) (Nat.le_of_ble_eq_true rfl) rfl ?_
  intro p e s m args below meth c A Q E jmn jA jK jret H locs jP jD jS ls jl
  obtain ⟨jx, jb, jrt, jml, jown, jts, jlk⟩ := E
  have jown : s.vm.findClass R_Row = some m.cls := jown
  have jl : lv_has ls 2 [(0, .ref h), (1, .int (iZ a))] := jl
  refine lv_aload_n jx jb d_Row_startTaking_0 rfl (lv_at jl 0 rfl) ?_
  refine lv_iload_n jx jb d_Row_startTaking_1 rfl (lv_at jl 1 rfl) ?_
  refine va_put (D := D) (ci := 0) (v := .int (iZ a)) (ty := .int) (C := R_Row) (T := F_Row) (N := 7) jx jb jts i_Row t_Row t_Row_ok n_Row jown jK.1 jP jD jS 0 rfl rfl 5 (by decide) (jts _ fl_Row_50) (fun _ h9 => h9) rfl (by decide +kernel) rfl rfl (Nat.le_of_ble_eq_true rfl) d_Row_startTaking_2 (fun H locs jP jD jS => ?_)
  have jP : va_P D classes [(h, .inr (0, [.ref hb, .int (iZ L), .int (iZ hd), .int (iZ hn), .int (iZ ov), .int (iZ a), .int (iZ tb)]))] H := jP
  have jD : va_D A [(h, .inr (0, [.ref hb, .int (iZ L), .int (iZ hd), .int (iZ hn), .int (iZ ov), .int (iZ a), .int (iZ tb)]))] := jD
  refine lv_aload_n jx jb d_Row_startTaking_5 rfl (lv_at jl 0 rfl) ?_
  refine lv_iconst (v := iZ 0) jx jb d_Row_startTaking_6 rfl ?_
  refine va_put (D := D) (ci := 0) (v := .int (iZ 0)) (ty := .int) (C := R_Row) (T := F_Row) (N := 7) jx jb jts i_Row t_Row t_Row_ok n_Row jown jK.1 jP jD jS 0 rfl rfl 6 (by decide) (jts _ fl_Row_53) (fun _ h9 => h9) rfl (by decide +kernel) rfl rfl (Nat.le_of_ble_eq_true rfl) d_Row_startTaking_7 (fun H locs jP jD jS => ?_)
  have jP : va_P D classes [(h, .inr (0, [.ref hb, .int (iZ L), .int (iZ hd), .int (iZ hn), .int (iZ ov), .int (iZ a), .int (iZ 0)]))] H := jP
  have jD : va_D A [(h, .inr (0, [.ref hb, .int (iZ L), .int (iZ hd), .int (iZ hn), .int (iZ ov), .int (iZ a), .int (iZ 0)]))] := jD
  exact jret _ _ () _ _ (trivial) (jP.sub [0] rfl) (jD.sub [0] (by decide) rfl) jS d_Row_startTaking_10
abbrev rm_Row_hasBits : Room := { frames := 0, cells := 0, slots := 0, locals := 0 }
set_option maxHeartbeats 4000000 in
set_option maxRecDepth 100000 in
theorem c_Row_hasBits (l : Launch) (D : va_G) (cI cB cZ : ClassId) (h : Nat) (hb : Nat) (L : Int) (hd : Int) (hn : Int) (ov : Int) (ts : Int) (tb : Int) (n : Int) (hL : 0 ≤ L ∧ L ≤ 6000 ∧ 0 ≤ ts ∧ ts ≤ L ∧ 0 ≤ tb ∧ tb ≤ 1000000 ∧ 0 ≤ n ∧ n ≤ 1000) : Met l y_Row_hasBits (.code y_Row_hasBits b_Row_hasBits 2 (some .boolean) :: zT) rm_Row_hasBits (zRc D classes (TY cI cB cZ) [(h, .inr (0, [.ref hb, .int (iZ L), .int (iZ hd), .int (iZ hn), .int (iZ ov), .int (iZ ts), .int (iZ tb)]))] [.ref h, .int (iZ n)]) (zSi (fun z => (z = 1 ∧ tb + n ≤ 8 * (L - ts)) ∨ (z = 0 ∧ 8 * (L - ts) < tb + n))) 0 0 (fun _ => False) := by
  refine z_ofr (by decide) (Nat.le_of_ble_eq_true rfl) (Or.inr rfl) ?_
  intro p e s m args below meth c Q E jP jK jret ls jl
  obtain ⟨jx, jb, jrt, jml, jown, jts, jlk⟩ := E
  have jown : s.vm.findClass R_Row = some m.cls := jown
  have jl : lv_has ls 2 [(0, .ref h), (1, .int (iZ n))] := jl
  refine lv_aload_n jx jb d_Row_hasBits_0 rfl (lv_at jl 0 rfl) ?_
  refine va_get (D := D) (ci := 0) (v := .int (iZ tb)) (C := R_Row) (T := F_Row) (N := 7) jx jb jts i_Row jown jK.1 jP 0 rfl rfl 6 (by decide) (jts _ fl_Row_53) (fun _ h9 => h9) rfl d_Row_hasBits_1 ?_
  refine lv_iload_n jx jb d_Row_hasBits_4 rfl (lv_at jl 1 rfl) ?_
  refine z_iadd jx jb d_Row_hasBits_5 ?_
  refine lv_bipush (v := iZ 8) jx jb d_Row_hasBits_6 (by decide) ?_
  refine lv_aload_n jx jb d_Row_hasBits_8 rfl (lv_at jl 0 rfl) ?_
  refine va_get (D := D) (ci := 0) (v := .int (iZ L)) (C := R_Row) (T := F_Row) (N := 7) jx jb jts i_Row jown jK.1 jP 0 rfl rfl 1 (by decide) (jts _ fl_Row_15) (fun _ h9 => h9) rfl d_Row_hasBits_9 ?_
  refine lv_aload_n jx jb d_Row_hasBits_12 rfl (lv_at jl 0 rfl) ?_
  refine va_get (D := D) (ci := 0) (v := .int (iZ ts)) (C := R_Row) (T := F_Row) (N := 7) jx jb jts i_Row jown jK.1 jP 0 rfl rfl 5 (by decide) (jts _ fl_Row_50) (fun _ h9 => h9) rfl d_Row_hasBits_13 ?_
  refine z_isub jx jb d_Row_hasBits_16 ?_
  refine z_imul jx jb d_Row_hasBits_17 ?_
  refine z_icmp_gt (tgt := 25) jx jb d_Row_hasBits_18 (by decide) ⟨⟨by omega, by omega⟩, ⟨by omega, by omega⟩⟩ (fun hc18 => ?_) (fun hc18 => ?_)
  ·
    refine lv_iconst (v := iZ 0) jx jb d_Row_hasBits_25 rfl ?_
    exact jret _ _ _ (Or.inr (Or.inl rfl)) (by omega) d_Row_hasBits_26
  ·
    refine lv_iconst (v := iZ 1) jx jb d_Row_hasBits_21 rfl ?_
    refine lv_goto (tgt := 26) jx jb d_Row_hasBits_22 (by decide) ?_
    exact jret _ _ _ (Or.inr (Or.inr rfl)) (by omega) d_Row_hasBits_26
abbrev rm_Row_nextBits : Room := { frames := 2, cells := 0, slots := 0, locals := 46 }
set_option maxHeartbeats 4000000 in
set_option maxRecDepth 100000 in
theorem c_Row_nextBits (l : Launch) (D : va_G) (cI cB cZ : ClassId) (h : Nat) (hb : Nat) (L : Int) (hd : Int) (hn : Int) (ov : Int) (ts : Int) (tb : Int) (f : Nat → Int) (n : Nat) (hL : 0 ≤ L ∧ L ≤ 6000) (ha : 0 ≤ ts ∧ ts ≤ 100000 ∧ 0 ≤ tb ∧ tb ≤ 1000000) (hn13 : n ≤ 13) : Met l y_Row_nextBits (.code y_Row_nextBits b_Row_nextBits 2 (some .int) :: zT) rm_Row_nextBits (zRc D classes (TY cI cB cZ) [(h, .inr (0, [.ref hb, .int (iZ L), .int (iZ hd), .int (iZ hn), .int (iZ ov), .int (iZ ts), .int (iZ tb)])), (hb, .inl (cB, 6000, .inl (zA f)))] [.ref h, .int (iZ (n : Int))]) (zSi (fun z => z = rNum f L ts tb n)) 0 0 (fun _ => False) := by
  refine z_ofr (by decide) (Nat.le_of_ble_eq_true rfl) (Or.inl rfl) ?_
  intro p e s m args below meth c Q E jP jK jret ls jl
  obtain ⟨jx, jb, jrt, jml, jown, jts, jlk⟩ := E
  have jown : s.vm.findClass R_Row = some m.cls := jown
  have jl : lv_has ls 2 [(0, .ref h), (1, .int (iZ (n : Int)))] := jl
  refine lv_aload_n jx jb d_Row_nextBits_0 rfl (lv_at jl 0 rfl) ?_
  refine lv_aload_n jx jb d_Row_nextBits_1 rfl (lv_at jl 0 rfl) ?_
  refine va_get (D := D) (ci := 0) (v := .int (iZ ts)) (C := R_Row) (T := F_Row) (N := 7) jx jb jts i_Row jown jK.1 jP 0 rfl rfl 5 (by decide) (jts _ fl_Row_50) (fun _ h9 => h9) rfl d_Row_nextBits_2 ?_
  refine lv_aload_n jx jb d_Row_nextBits_5 rfl (lv_at jl 0 rfl) ?_
  refine va_get (D := D) (ci := 0) (v := .int (iZ tb)) (C := R_Row) (T := F_Row) (N := 7) jx jb jts i_Row jown jK.1 jP 0 rfl rfl 6 (by decide) (jts _ fl_Row_53) (fun _ h9 => h9) rfl d_Row_nextBits_6 ?_
  refine lv_iload_n jx jb d_Row_nextBits_9 rfl (lv_at jl 1 rfl) ?_
  refine z_backe (va_runV (As := [.int (iZ ts), .int (iZ tb), .int (iZ (n : Int))]) (rest := []) ⟨jx, jb, jml, jown, jts⟩ (c_Row_number l D cI cB cZ h hb L hd hn ov ts tb f ts tb n (by first | assumption | omega) (by first | assumption | omega) (by first | assumption | omega)) (zc_V 3 jts cd_Row_number lk_Row_56 im_Row_number se_Row_number in_Row hd_Row_number ⟨Nat.le_of_ble_eq_true rfl, Nat.le_of_ble_eq_true rfl⟩ rfl rfl) (z_preVR jK jP [0, 1] rfl rfl rfl) rfl rfl jl.1 rfl (lv_room (Nat.le_of_ble_eq_true rfl)) d_Row_nextBits_10 ⟨Nat.le_of_ble_eq_true rfl, Nat.le_of_ble_eq_true rfl⟩) ?_
  exact jret _ _ _ (Or.inl rfl) (rfl) d_Row_nextBits_13
abbrev rm_Row_takeBits : Room := { frames := 3, cells := 0, slots := 0, locals := 67 }
set_option maxHeartbeats 4000000 in
set_option maxRecDepth 100000 in
theorem c_Row_takeBits (l : Launch) (D : va_G) (cI cB cZ : ClassId) (sz : Nat) (h : Nat) (hb : Nat) (L : Int) (hd : Int) (hn : Int) (ov : Int) (ts : Int) (tb : Int) (f : Nat → Int) (n : Nat) (hL : 0 ≤ L ∧ L ≤ 6000) (ha : 0 ≤ ts ∧ ts ≤ 100000 ∧ 0 ≤ tb ∧ tb ≤ 1000000) (hn13 : n ≤ 13) : Met l y_Row_takeBits (.code y_Row_takeBits b_Row_takeBits 3 (some .int) :: zT) rm_Row_takeBits (zPc D classes (TY cI cB cZ) [(h, .inr (0, [.ref hb, .int (iZ L), .int (iZ hd), .int (iZ hn), .int (iZ ov), .int (iZ ts), .int (iZ tb)])), (hb, .inl (cB, 6000, .inl (zA f)))] sz [.ref h, .int (iZ (n : Int))]) (zFi (S := Unit) D classes (fun z _u => z = rNum f L ts tb n) (fun _u => [(h, .inr (0, [.ref hb, .int (iZ L), .int (iZ hd), .int (iZ hn), .int (iZ ov), .int (iZ ts), .int (iZ (tb + (n : Int)))])), (hb, .inl (cB, 6000, .inl (zA f)))]) (va_A [(h, .inr (0, [.ref hb, .int (iZ L), .int (iZ hd), .int (iZ hn), .int (iZ ov), .int (iZ ts), .int (iZ tb)])), (hb, .inl (cB, 6000, .inl (zA f)))] sz)) 0 0 (va_A [(h, .inr (0, [.ref hb, .int (iZ L), .int (iZ hd), .int (iZ hn), .int (iZ ov), .int (iZ ts), .int (iZ tb)])), (hb, .inl (cB, 6000, .inl (zA f)))] sz) := by
  refine z_ofi (by decide) (Nat.le_of_ble_eq_true rfl) (Or.inl rfl) ?_
  intro p e s m args below meth c A Q E jA jK jret H locs jP jD jS ls jl
  obtain ⟨jx, jb, jrt, jml, jown, jts, jlk⟩ := E
  have jown : s.vm.findClass R_Row = some m.cls := jown
  have jl : lv_has ls 3 [(0, .ref h), (1, .int (iZ (n : Int)))] := jl
  refine lv_aload_n jx jb d_Row_takeBits_0 rfl (lv_at jl 0 rfl) ?_
  refine lv_iload_n jx jb d_Row_takeBits_1 rfl (lv_at jl 1 rfl) ?_
  refine z_backe (va_runV (As := [.int (iZ (n : Int))]) (rest := []) ⟨jx, jb, jml, jown, jts⟩ (c_Row_nextBits l D cI cB cZ h hb L hd hn ov ts tb f n (by first | assumption | omega) (by first | assumption | omega) (by first | assumption | omega)) (zc_V 1 jts cd_Row_nextBits lk_Row_60 im_Row_nextBits se_Row_nextBits in_Row hd_Row_nextBits ⟨Nat.le_of_ble_eq_true rfl, Nat.le_of_ble_eq_true rfl⟩ rfl rfl) (z_preVR jK jP [0, 1] rfl rfl rfl) rfl rfl jl.1 rfl (lv_room (Nat.le_of_ble_eq_true rfl)) d_Row_takeBits_2 ⟨Nat.le_of_ble_eq_true rfl, Nat.le_of_ble_eq_true rfl⟩) ?_
  refine lv_istore_n (lv' := [(2, .int (iZ (rNum f L ts tb n))), (0, .ref h), (1, .int (iZ (n : Int)))]) jx jb d_Row_takeBits_5 rfl jl (by decide) rfl (fun ls jl => ?_)
  refine lv_aload_n jx jb d_Row_takeBits_6 rfl (lv_at jl 1 rfl) ?_
  refine lv_dup jx jb d_Row_takeBits_7 rfl ?_
  refine va_get (D := D) (ci := 0) (v := .int (iZ tb)) (C := R_Row) (T := F_Row) (N := 7) jx jb jts i_Row jown jK.1 jP 0 rfl rfl 6 (by decide) (jts _ fl_Row_53) (fun _ h9 => h9) rfl d_Row_takeBits_8 ?_
  refine lv_iload_n jx jb d_Row_takeBits_11 rfl (lv_at jl 2 rfl) ?_
  refine z_iadd jx jb d_Row_takeBits_12 ?_
  refine va_put (D := D) (ci := 0) (v := .int (iZ (tb + (n : Int)))) (ty := .int) (C := R_Row) (T := F_Row) (N := 7) jx jb jts i_Row t_Row t_Row_ok n_Row jown jK.1 jP jD jS 0 rfl rfl 6 (by decide) (jts _ fl_Row_53) (fun _ h9 => h9) rfl (by decide +kernel) rfl rfl (Nat.le_of_ble_eq_true rfl) d_Row_takeBits_13 (fun H locs jP jD jS => ?_)
  have jP : va_P D classes [(h, .inr (0, [.ref hb, .int (iZ L), .int (iZ hd), .int (iZ hn), .int (iZ ov), .int (iZ ts), .int (iZ (tb + (n : Int)))])), (hb, .inl (cB, 6000, .inl (zA f)))] H := jP
  have jD : va_D A [(h, .inr (0, [.ref hb, .int (iZ L), .int (iZ hd), .int (iZ hn), .int (iZ ov), .int (iZ ts), .int (iZ (tb + (n : Int)))])), (hb, .inl (cB, 6000, .inl (zA f)))] := jD
  refine lv_iload_n jx jb d_Row_takeBits_16 rfl (lv_at jl 0 rfl) ?_
  exact jret _ _ _ () _ _ (Or.inl rfl) (rfl) (jP.sub [0, 1] rfl) (jD.sub [0, 1] (by decide) rfl) jS d_Row_takeBits_17
abbrev rm_Row_bytesTaken : Room := { frames := 0, cells := 0, slots := 0, locals := 0 }
set_option maxHeartbeats 4000000 in
set_option maxRecDepth 100000 in
theorem c_Row_bytesTaken (l : Launch) (D : va_G) (cI cB cZ : ClassId) (h : Nat) (hb : Nat) (L : Int) (hd : Int) (hn : Int) (ov : Int) (ts : Int) (tb : Int) (ht : 0 ≤ tb ∧ tb ≤ 1000000) : Met l y_Row_bytesTaken (.code y_Row_bytesTaken b_Row_bytesTaken 1 (some .int) :: zT) rm_Row_bytesTaken (zRc D classes (TY cI cB cZ) [(h, .inr (0, [.ref hb, .int (iZ L), .int (iZ hd), .int (iZ hn), .int (iZ ov), .int (iZ ts), .int (iZ tb)]))] [.ref h]) (zSi (fun z => z = (tb + 7) / 8)) 0 0 (fun _ => False) := by
  refine z_ofr (by decide) (Nat.le_of_ble_eq_true rfl) (Or.inl rfl) ?_
  intro p e s m args below meth c Q E jP jK jret ls jl
  obtain ⟨jx, jb, jrt, jml, jown, jts, jlk⟩ := E
  have jown : s.vm.findClass R_Row = some m.cls := jown
  have jl : lv_has ls 1 [(0, .ref h)] := jl
  refine lv_aload_n jx jb d_Row_bytesTaken_0 rfl (lv_at jl 0 rfl) ?_
  refine va_get (D := D) (ci := 0) (v := .int (iZ tb)) (C := R_Row) (T := F_Row) (N := 7) jx jb jts i_Row jown jK.1 jP 0 rfl rfl 6 (by decide) (jts _ fl_Row_53) (fun _ h9 => h9) rfl d_Row_bytesTaken_1 ?_
  refine lv_bipush (v := iZ 7) jx jb d_Row_bytesTaken_4 (by decide) ?_
  refine z_iadd jx jb d_Row_bytesTaken_6 ?_
  refine lv_iconst (v := iZ 3) jx jb d_Row_bytesTaken_7 rfl ?_
  refine z_ishr jx jb d_Row_bytesTaken_8 3 8 (rfl) (by omega) ?_
  exact jret _ _ _ (Or.inl rfl) (rfl) d_Row_bytesTaken_9
abbrev rm_Row_putBits : Room := { frames := 1, cells := 0, slots := 0, locals := 21 }
set_option maxHeartbeats 4000000 in
set_option maxRecDepth 100000 in
theorem c_Row_putBits (l : Launch) (D : va_G) (cI cB cZ : ClassId) (sz : Nat) (h : Nat) (hb : Nat) (L : Int) (hd : Int) (hn : Int) (ov : Int) (ts : Int) (tb : Int) (f : Nat → Int) (x : Nat) (n : Nat) (V : Nat) (B : Nat) (hI : rI V B (B / 8) L hd hn ov f) (hxn : x < 2 ^ n) (hn13 : n ≤ 13) : Met l y_Row_putBits (.code y_Row_putBits b_Row_putBits 3 none :: zT) rm_Row_putBits (zPc D classes (TY cI cB cZ) [(h, .inr (0, [.ref hb, .int (iZ L), .int (iZ hd), .int (iZ hn), .int (iZ ov), .int (iZ ts), .int (iZ tb)])), (hb, .inl (cB, 6000, .inl (zA f)))] sz [.ref h, .int (iZ (x : Int)), .int (iZ (n : Int))]) (zFv (S := Int × Int × Int × Int × (Nat → Int)) D classes (fun u => rI (V + x * 2 ^ B) (B + n) ((B + n) / 8) u.1 u.2.1 u.2.2.1 u.2.2.2.1 u.2.2.2.2) (fun u => [(h, .inr (0, [.ref hb, .int (iZ u.1), .int (iZ u.2.1), .int (iZ u.2.2.1), .int (iZ u.2.2.2.1), .int (iZ ts), .int (iZ tb)])), (hb, .inl (cB, 6000, .inl (zA u.2.2.2.2)))]) (va_A [(h, .inr (0, [.ref hb, .int (iZ L), .int (iZ hd), .int (iZ hn), .int (iZ ov), .int (iZ ts), .int (iZ tb)])), (hb, .inl (cB, 6000, .inl (zA f)))] sz)) 0 0 (va_A [(h, .inr (0, [.ref hb, .int (iZ L), .int (iZ hd), .int (iZ hn), .int (iZ ov), .int (iZ ts), .int (iZ tb)])), (hb, .inl (cB, 6000, .inl (zA f)))] sz) := by
  refine z_ofv (by decide) (Nat.le_of_ble_eq_true rfl) rfl ?_
  intro p e s m args below meth c A Q E jmn jA jK jret H locs jP jD jS ls jl
  obtain ⟨jx, jb, jrt, jml, jown, jts, jlk⟩ := E
  have jown : s.vm.findClass R_Row = some m.cls := jown
  have hor := rI_or hI hxn hn13
  have hns := hI.2.2.1
  have jl : lv_has ls 3 [(0, .ref h), (1, .int (iZ (x : Int))), (2, .int (iZ (n : Int)))] := jl
  refine lv_aload_n jx jb d_Row_putBits_0 rfl (lv_at jl 0 rfl) ?_
  refine lv_dup jx jb d_Row_putBits_1 rfl ?_
  refine va_get (D := D) (ci := 0) (v := .int (iZ hd)) (C := R_Row) (T := F_Row) (N := 7) jx jb jts i_Row jown jK.1 jP 0 rfl rfl 2 (by decide) (jts _ fl_Row_19) (fun _ h9 => h9) rfl d_Row_putBits_2 ?_
  refine lv_iload_n jx jb d_Row_putBits_5 rfl (lv_at jl 1 rfl) ?_
  refine lv_aload_n jx jb d_Row_putBits_6 rfl (lv_at jl 0 rfl) ?_
  refine va_get (D := D) (ci := 0) (v := .int (iZ hn)) (C := R_Row) (T := F_Row) (N := 7) jx jb jts i_Row jown jK.1 jP 0 rfl rfl 3 (by decide) (jts _ fl_Row_22) (fun _ h9 => h9) rfl d_Row_putBits_7 ?_
  refine z_ishl jx jb d_Row_putBits_10 (B - 8 * (B / 8)) (2 ^ (B - 8 * (B / 8))) (rfl) (by omega) ?_
  refine z_ior jx jb d_Row_putBits_11 (B - 8 * (B / 8)) (2 ^ (B - 8 * (B / 8))) (rfl) (x : Int) (rfl) (hor) ?_
  refine va_put (D := D) (ci := 0) (v := .int (iZ (hd + (x : Int) * (2 ^ (B - 8 * (B / 8)))))) (ty := .int) (C := R_Row) (T := F_Row) (N := 7) jx jb jts i_Row t_Row t_Row_ok n_Row jown jK.1 jP jD jS 0 rfl rfl 2 (by decide) (jts _ fl_Row_19) (fun _ h9 => h9) rfl (by decide +kernel) rfl rfl (Nat.le_of_ble_eq_true rfl) d_Row_putBits_12 (fun H locs jP jD jS => ?_)
  have jP : va_P D classes [(h, .inr (0, [.ref hb, .int (iZ L), .int (iZ (hd + (x : Int) * (2 ^ (B - 8 * (B / 8))))), .int (iZ hn), .int (iZ ov), .int (iZ ts), .int (iZ tb)])), (hb, .inl (cB, 6000, .inl (zA f)))] H := jP
  have jD : va_D A [(h, .inr (0, [.ref hb, .int (iZ L), .int (iZ (hd + (x : Int) * (2 ^ (B - 8 * (B / 8))))), .int (iZ hn), .int (iZ ov), .int (iZ ts), .int (iZ tb)])), (hb, .inl (cB, 6000, .inl (zA f)))] := jD
  refine lv_aload_n jx jb d_Row_putBits_15 rfl (lv_at jl 0 rfl) ?_
  refine lv_dup jx jb d_Row_putBits_16 rfl ?_
  refine va_get (D := D) (ci := 0) (v := .int (iZ hn)) (C := R_Row) (T := F_Row) (N := 7) jx jb jts i_Row jown jK.1 jP 0 rfl rfl 3 (by decide) (jts _ fl_Row_22) (fun _ h9 => h9) rfl d_Row_putBits_17 ?_
  refine lv_iload_n jx jb d_Row_putBits_20 rfl (lv_at jl 2 rfl) ?_
  refine z_iadd jx jb d_Row_putBits_21 ?_
  refine va_put (D := D) (ci := 0) (v := .int (iZ (hn + (n : Int)))) (ty := .int) (C := R_Row) (T := F_Row) (N := 7) jx jb jts i_Row t_Row t_Row_ok n_Row jown jK.1 jP jD jS 0 rfl rfl 3 (by decide) (jts _ fl_Row_22) (fun _ h9 => h9) rfl (by decide +kernel) rfl rfl (Nat.le_of_ble_eq_true rfl) d_Row_putBits_22 (fun H locs jP jD jS => ?_)
  have jP : va_P D classes [(h, .inr (0, [.ref hb, .int (iZ L), .int (iZ (hd + (x : Int) * (2 ^ (B - 8 * (B / 8))))), .int (iZ (hn + (n : Int))), .int (iZ ov), .int (iZ ts), .int (iZ tb)])), (hb, .inl (cB, 6000, .inl (zA f)))] H := jP
  have jD : va_D A [(h, .inr (0, [.ref hb, .int (iZ L), .int (iZ (hd + (x : Int) * (2 ^ (B - 8 * (B / 8))))), .int (iZ (hn + (n : Int))), .int (iZ ov), .int (iZ ts), .int (iZ tb)])), (hb, .inl (cB, 6000, .inl (zA f)))] := jD
  have hloop25 : ∀ (nF : Nat) (N : Nat) (L2 : Int) (hd2 : Int) (hn2 : Int) (ov2 : Int) (f2 : Nat → Int), hn2.toNat < nF → (rI (V + x * 2 ^ B) (B + n) N L2 hd2 hn2 ov2 f2) → (hn2 ≤ 20) → ∀ (H : Heap) (locs : List Loc), va_P D classes [(h, .inr (0, [.ref hb, .int (iZ L2), .int (iZ hd2), .int (iZ hn2), .int (iZ ov2), .int (iZ ts), .int (iZ tb)])), (hb, .inl (cB, 6000, .inl (zA f2)))] H → va_D A [(h, .inr (0, [.ref hb, .int (iZ L2), .int (iZ hd2), .int (iZ hn2), .int (iZ ov2), .int (iZ ts), .int (iZ tb)])), (hb, .inl (cB, 6000, .inl (zA f2)))] → va_S A s.heap H locs → ∀ ls : Array Slot, lv_has ls 3 [(0, .ref h)] → W p l e rm_Row_putBits s m args below meth c H locs 0 0 Q (F0 m 25 ls []) := by
    intro nF
    induction nF with
    | zero => intro N L2 hd2 hn2 ov2 f2 hm; exact absurd hm (Nat.not_lt_zero _)
    | succ nF ih25 =>
      intro N L2 hd2 hn2 ov2 f2 hm hI2 hb2 H locs jP jD jS ls jl
      have hh2 := rI_hd hI2
      have hb3 := rI_small hI2 hb2
      refine lv_aload_n jx jb d_Row_putBits_25 rfl (lv_at jl 0 rfl) ?_
      refine va_get (D := D) (ci := 0) (v := .int (iZ hn2)) (C := R_Row) (T := F_Row) (N := 7) jx jb jts i_Row jown jK.1 jP 0 rfl rfl 3 (by decide) (jts _ fl_Row_22) (fun _ h9 => h9) rfl d_Row_putBits_26 ?_
      refine lv_bipush (v := iZ 8) jx jb d_Row_putBits_29 (by decide) ?_
      refine z_icmp_lt (tgt := 71) jx jb d_Row_putBits_31 (by decide) ⟨⟨by omega, by omega⟩, ⟨by decide, by decide⟩⟩ (fun hc31 => ?_) (fun hc31 => ?_)
      ·
        exact jret _ _ (L2, hd2, hn2, ov2, f2) _ _ (by rw [← rI_done hI2 (by omega)]; exact hI2) (jP.sub [0, 1] rfl) (jD.sub [0, 1] (by decide) rfl) jS d_Row_putBits_71
      ·
        refine lv_aload_n jx jb d_Row_putBits_34 rfl (lv_at jl 0 rfl) ?_
        refine lv_aload_n jx jb d_Row_putBits_35 rfl (lv_at jl 0 rfl) ?_
        refine va_get (D := D) (ci := 0) (v := .int (iZ hd2)) (C := R_Row) (T := F_Row) (N := 7) jx jb jts i_Row jown jK.1 jP 0 rfl rfl 2 (by decide) (jts _ fl_Row_19) (fun _ h9 => h9) rfl d_Row_putBits_36 ?_
        refine lv_sipush (v := iZ 255) jx jb d_Row_putBits_39 (by decide) ?_
        refine z_iand jx jb d_Row_putBits_42 8 256 (rfl) (rfl) (by decide) ?_
        refine z_backv (wr := []) jP jD jS jA [0, 1] [] rfl rfl (by decide) (by decide) (va_runV (As := [.int (iZ (hd2 % 256))]) (rest := []) ⟨jx, jb, jml, jown, jts⟩ (c_Row_add l D cI cB cZ H.size h hb L2 hd2 hn2 ov2 ts tb f2 (hd2 % 256) (by first | assumption | omega)) (zc_V 1 jts cd_Row_add lk_Row_38 im_Row_add se_Row_add in_Row hd_Row_add ⟨Nat.le_of_ble_eq_true rfl, Nat.le_of_ble_eq_true rfl⟩ rfl rfl) (z_preV jK jP jD [0, 1] (by decide) rfl rfl rfl rfl) rfl rfl jl.1 rfl (lv_room (Nat.le_of_ble_eq_true rfl)) d_Row_putBits_43 ⟨Nat.le_of_ble_eq_true rfl, Nat.le_of_ble_eq_true rfl⟩) (fun u43 H locs hu43 jP jD jS => ?_)
        obtain ⟨L1_43, ov1_43, f1_43⟩ := u43
        have jP : va_P D classes [(h, .inr (0, [.ref hb, .int (iZ L1_43), .int (iZ hd2), .int (iZ hn2), .int (iZ ov1_43), .int (iZ ts), .int (iZ tb)])), (hb, .inl (cB, 6000, .inl (zA f1_43)))] H := jP.sub [0, 1] rfl
        have jD : va_D A [(h, .inr (0, [.ref hb, .int (iZ L1_43), .int (iZ hd2), .int (iZ hn2), .int (iZ ov1_43), .int (iZ ts), .int (iZ tb)])), (hb, .inl (cB, 6000, .inl (zA f1_43)))] := jD.sub [0, 1] (by decide) rfl
        refine lv_aload_n jx jb d_Row_putBits_46 rfl (lv_at jl 0 rfl) ?_
        refine lv_dup jx jb d_Row_putBits_47 rfl ?_
        refine va_get (D := D) (ci := 0) (v := .int (iZ hd2)) (C := R_Row) (T := F_Row) (N := 7) jx jb jts i_Row jown jK.1 jP 0 rfl rfl 2 (by decide) (jts _ fl_Row_19) (fun _ h9 => h9) rfl d_Row_putBits_48 ?_
        refine lv_bipush (v := iZ 8) jx jb d_Row_putBits_51 (by decide) ?_
        refine z_ishr jx jb d_Row_putBits_53 8 256 (rfl) (by omega) ?_
        refine va_put (D := D) (ci := 0) (v := .int (iZ (hd2 / 256))) (ty := .int) (C := R_Row) (T := F_Row) (N := 7) jx jb jts i_Row t_Row t_Row_ok n_Row jown jK.1 jP jD jS 0 rfl rfl 2 (by decide) (jts _ fl_Row_19) (fun _ h9 => h9) rfl (by decide +kernel) rfl rfl (Nat.le_of_ble_eq_true rfl) d_Row_putBits_54 (fun H locs jP jD jS => ?_)
        have jP : va_P D classes [(h, .inr (0, [.ref hb, .int (iZ L1_43), .int (iZ (hd2 / 256)), .int (iZ hn2), .int (iZ ov1_43), .int (iZ ts), .int (iZ tb)])), (hb, .inl (cB, 6000, .inl (zA f1_43)))] H := jP
        have jD : va_D A [(h, .inr (0, [.ref hb, .int (iZ L1_43), .int (iZ (hd2 / 256)), .int (iZ hn2), .int (iZ ov1_43), .int (iZ ts), .int (iZ tb)])), (hb, .inl (cB, 6000, .inl (zA f1_43)))] := jD
        refine lv_aload_n jx jb d_Row_putBits_57 rfl (lv_at jl 0 rfl) ?_
        refine lv_dup jx jb d_Row_putBits_58 rfl ?_
        refine va_get (D := D) (ci := 0) (v := .int (iZ hn2)) (C := R_Row) (T := F_Row) (N := 7) jx jb jts i_Row jown jK.1 jP 0 rfl rfl 3 (by decide) (jts _ fl_Row_22) (fun _ h9 => h9) rfl d_Row_putBits_59 ?_
        refine lv_bipush (v := iZ 8) jx jb d_Row_putBits_62 (by decide) ?_
        refine z_isub jx jb d_Row_putBits_64 ?_
        refine va_put (D := D) (ci := 0) (v := .int (iZ (hn2 - 8))) (ty := .int) (C := R_Row) (T := F_Row) (N := 7) jx jb jts i_Row t_Row t_Row_ok n_Row jown jK.1 jP jD jS 0 rfl rfl 3 (by decide) (jts _ fl_Row_22) (fun _ h9 => h9) rfl (by decide +kernel) rfl rfl (Nat.le_of_ble_eq_true rfl) d_Row_putBits_65 (fun H locs jP jD jS => ?_)
        have jP : va_P D classes [(h, .inr (0, [.ref hb, .int (iZ L1_43), .int (iZ (hd2 / 256)), .int (iZ (hn2 - 8)), .int (iZ ov1_43), .int (iZ ts), .int (iZ tb)])), (hb, .inl (cB, 6000, .inl (zA f1_43)))] H := jP
        have jD : va_D A [(h, .inr (0, [.ref hb, .int (iZ L1_43), .int (iZ (hd2 / 256)), .int (iZ (hn2 - 8)), .int (iZ ov1_43), .int (iZ ts), .int (iZ tb)])), (hb, .inl (cB, 6000, .inl (zA f1_43)))] := jD
        refine lv_goto (tgt := 25) jx jb d_Row_putBits_68 (by decide) ?_
        exact ih25 (N + 1) L1_43 (hd2 / 256) (hn2 - 8) ov1_43 f1_43 (by omega) (rI_step hI2 (by omega) hu43) (by first | assumption | omega) _ _ (jP.sub [0, 1] rfl) (jD.sub [0, 1] (by decide) rfl) jS _ (lv_sub jl [0] rfl)
  exact hloop25 (((hn + (n : Int)).toNat) + 1) (B / 8) L (hd + (x : Int) * (2 ^ (B - 8 * (B / 8)))) (hn + (n : Int)) ov f (Nat.lt_succ_self _) (rI_put hI hxn) (by first | assumption | omega) _ _ (jP.sub [0, 1] rfl) (jD.sub [0, 1] (by decide) rfl) jS _ (lv_sub jl [0] rfl)
abbrev rm_Row_closeBits : Room := { frames := 2, cells := 0, slots := 0, locals := 43 }
set_option maxHeartbeats 4000000 in
set_option maxRecDepth 100000 in
theorem c_Row_closeBits (l : Launch) (D : va_G) (cI cB cZ : ClassId) (sz : Nat) (h : Nat) (hb : Nat) (L : Int) (hd : Int) (hn : Int) (ov : Int) (ts : Int) (tb : Int) (f : Nat → Int) (V : Nat) (B : Nat) (hI : rI V B (B / 8) L hd hn ov f) : Met l y_Row_closeBits (.code y_Row_closeBits b_Row_closeBits 1 none :: zT) rm_Row_closeBits (zPc D classes (TY cI cB cZ) [(h, .inr (0, [.ref hb, .int (iZ L), .int (iZ hd), .int (iZ hn), .int (iZ ov), .int (iZ ts), .int (iZ tb)])), (hb, .inl (cB, 6000, .inl (zA f)))] sz [.ref h]) (zFv (S := Int × Int × Int × Int × (Nat → Int)) D classes (fun u => rI V (8 * ((B + 7) / 8)) ((B + 7) / 8) u.1 u.2.1 u.2.2.1 u.2.2.2.1 u.2.2.2.2) (fun u => [(h, .inr (0, [.ref hb, .int (iZ u.1), .int (iZ u.2.1), .int (iZ u.2.2.1), .int (iZ u.2.2.2.1), .int (iZ ts), .int (iZ tb)])), (hb, .inl (cB, 6000, .inl (zA u.2.2.2.2)))]) (va_A [(h, .inr (0, [.ref hb, .int (iZ L), .int (iZ hd), .int (iZ hn), .int (iZ ov), .int (iZ ts), .int (iZ tb)])), (hb, .inl (cB, 6000, .inl (zA f)))] sz)) 0 0 (va_A [(h, .inr (0, [.ref hb, .int (iZ L), .int (iZ hd), .int (iZ hn), .int (iZ ov), .int (iZ ts), .int (iZ tb)])), (hb, .inl (cB, 6000, .inl (zA f)))] sz) := by
  refine z_ofv (by decide) (Nat.le_of_ble_eq_true rfl) rfl ?_
  intro p e s m args below meth c A Q E jmn jA jK jret H locs jP jD jS ls jl
  obtain ⟨jx, jb, jrt, jml, jown, jts, jlk⟩ := E
  have jown : s.vm.findClass R_Row = some m.cls := jown
  have hns := hI.2.2.1
  have jl : lv_has ls 1 [(0, .ref h)] := jl
  refine lv_aload_n jx jb d_Row_closeBits_0 rfl (lv_at jl 0 rfl) ?_
  refine va_get (D := D) (ci := 0) (v := .int (iZ hn)) (C := R_Row) (T := F_Row) (N := 7) jx jb jts i_Row jown jK.1 jP 0 rfl rfl 3 (by decide) (jts _ fl_Row_22) (fun _ h9 => h9) rfl d_Row_closeBits_1 ?_
  refine z_if_le (tgt := 19) jx jb d_Row_closeBits_4 (by decide) ⟨by omega, by omega⟩ (fun hc4 => ?_) (fun hc4 => ?_)
  ·
    exact jret _ _ (L, hd, hn, ov, f) _ _ (by first | exact rI_same hI (by omega) | exact rI_pad hu16 (by omega)) (jP.sub [0, 1] rfl) (jD.sub [0, 1] (by decide) rfl) jS d_Row_closeBits_19
  ·
    refine lv_aload_n jx jb d_Row_closeBits_7 rfl (lv_at jl 0 rfl) ?_
    refine lv_iconst (v := iZ 0) jx jb d_Row_closeBits_8 rfl ?_
    refine lv_bipush (v := iZ 8) jx jb d_Row_closeBits_9 (by decide) ?_
    refine lv_aload_n jx jb d_Row_closeBits_11 rfl (lv_at jl 0 rfl) ?_
    refine va_get (D := D) (ci := 0) (v := .int (iZ hn)) (C := R_Row) (T := F_Row) (N := 7) jx jb jts i_Row jown jK.1 jP 0 rfl rfl 3 (by decide) (jts _ fl_Row_22) (fun _ h9 => h9) rfl d_Row_closeBits_12 ?_
    refine z_isub jx jb d_Row_closeBits_15 ?_
    refine z_top ((8 - B % 8 : Nat) : Int) (by omega) ?_
    refine z_backv (wr := []) jP jD jS jA [0, 1] [] rfl rfl (by decide) (by decide) (va_runV (As := [.int (iZ 0), .int (iZ ((8 - B % 8 : Nat) : Int))]) (rest := []) ⟨jx, jb, jml, jown, jts⟩ (c_Row_putBits l D cI cB cZ H.size h hb L hd hn ov ts tb f 0 (8 - B % 8 : Nat) V B (by first | assumption | omega) (Nat.pow_pos (by decide)) (by omega)) (zc_V 2 jts cd_Row_putBits lk_Row_42 im_Row_putBits se_Row_putBits in_Row hd_Row_putBits ⟨Nat.le_of_ble_eq_true rfl, Nat.le_of_ble_eq_true rfl⟩ rfl rfl) (z_preV jK jP jD [0, 1] (by decide) rfl rfl rfl rfl) rfl rfl jl.1 rfl (lv_room (Nat.le_of_ble_eq_true rfl)) d_Row_closeBits_16 ⟨Nat.le_of_ble_eq_true rfl, Nat.le_of_ble_eq_true rfl⟩) (fun u16 H locs hu16 jP jD jS => ?_)
    obtain ⟨L1_16, hd1_16, hn1_16, ov1_16, f1_16⟩ := u16
    have jP : va_P D classes [(h, .inr (0, [.ref hb, .int (iZ L1_16), .int (iZ hd1_16), .int (iZ hn1_16), .int (iZ ov1_16), .int (iZ ts), .int (iZ tb)])), (hb, .inl (cB, 6000, .inl (zA f1_16)))] H := jP.sub [0, 1] rfl
    have jD : va_D A [(h, .inr (0, [.ref hb, .int (iZ L1_16), .int (iZ hd1_16), .int (iZ hn1_16), .int (iZ ov1_16), .int (iZ ts), .int (iZ tb)])), (hb, .inl (cB, 6000, .inl (zA f1_16)))] := jD.sub [0, 1] (by decide) rfl
    exact jret _ _ (L1_16, hd1_16, hn1_16, ov1_16, f1_16) _ _ (by first | exact rI_same hI (by omega) | exact rI_pad hu16 (by omega)) (jP.sub [0, 1] rfl) (jD.sub [0, 1] (by decide) rfl) jS d_Row_closeBits_19
abbrev rm_Row_copyFrom : Room := { frames := 1, cells := 0, slots := 0, locals := 60 }
set_option maxHeartbeats 4000000 in
set_option maxRecDepth 100000 in
theorem c_Row_copyFrom (l : Launch) (D : va_G) (cI cB cZ : ClassId) (sz : Nat) (h : Nat) (hb : Nat) (L : Int) (hd : Int) (hn : Int) (ov : Int) (ts : Int) (tb : Int) (f : Nat → Int) (h2 : Nat) (hb2 : Nat) (L2 : Int) (hd2 : Int) (hn2 : Int) (ov2 : Int) (ts2 : Int) (tb2 : Int) (f2 : Nat → Int) (hf : ∀ k, -128 ≤ f2 k ∧ f2 k < 128) : Met l y_Row_copyFrom (.code y_Row_copyFrom b_Row_copyFrom 2 none :: zT) rm_Row_copyFrom (zPc D classes (TY cI cB cZ) [(h, .inr (0, [.ref hb, .int (iZ L), .int (iZ hd), .int (iZ hn), .int (iZ ov), .int (iZ ts), .int (iZ tb)])), (hb, .inl (cB, 6000, .inl (zA f))), (h2, .inr (0, [.ref hb2, .int (iZ L2), .int (iZ hd2), .int (iZ hn2), .int (iZ ov2), .int (iZ ts2), .int (iZ tb2)])), (hb2, .inl (cB, 6000, .inl (zA f2)))] sz [.ref h, .ref h2]) (zFv (S := Unit) D classes (fun _u => True) (fun _u => [(h, .inr (0, [.ref hb, .int (iZ L2), .int (iZ 0), .int (iZ 0), .int (iZ 0), .int (iZ ts), .int (iZ tb)])), (hb, .inl (cB, 6000, .inl (zA (fun k => if k < 6000 then f2 k else f k)))), (h2, .inr (0, [.ref hb2, .int (iZ L2), .int (iZ hd2), .int (iZ hn2), .int (iZ ov2), .int (iZ ts2), .int (iZ tb2)])), (hb2, .inl (cB, 6000, .inl (zA f2)))]) (va_A [(h, .inr (0, [.ref hb, .int (iZ L), .int (iZ hd), .int (iZ hn), .int (iZ ov), .int (iZ ts), .int (iZ tb)])), (hb, .inl (cB, 6000, .inl (zA f))), (h2, .inr (0, [.ref hb2, .int (iZ L2), .int (iZ hd2), .int (iZ hn2), .int (iZ ov2), .int (iZ ts2), .int (iZ tb2)])), (hb2, .inl (cB, 6000, .inl (zA f2)))] sz)) 0 0 (va_A [(h, .inr (0, [.ref hb, .int (iZ L), .int (iZ hd), .int (iZ hn), .int (iZ ov), .int (iZ ts), .int (iZ tb)])), (hb, .inl (cB, 6000, .inl (zA f))), (h2, .inr (0, [.ref hb2, .int (iZ L2), .int (iZ hd2), .int (iZ hn2), .int (iZ ov2), .int (iZ ts2), .int (iZ tb2)])), (hb2, .inl (cB, 6000, .inl (zA f2)))] sz) := by
  refine z_ofv (by decide) (Nat.le_of_ble_eq_true rfl) rfl ?_
  intro p e s m args below meth c A Q E jmn jA jK jret H locs jP jD jS ls jl
  obtain ⟨jx, jb, jrt, jml, jown, jts, jlk⟩ := E
  have jown : s.vm.findClass R_Row = some m.cls := jown
  have jl : lv_has ls 2 [(0, .ref h), (1, .ref h2)] := jl
  refine lv_aload_n jx jb d_Row_copyFrom_0 rfl (lv_at jl 0 rfl) ?_
  refine z_backv (wr := [(hb, .inl (cB, 6000, .inl (zA f))), (h2, .inr (0, [.ref hb2, .int (iZ L2), .int (iZ hd2), .int (iZ hn2), .int (iZ ov2), .int (iZ ts2), .int (iZ tb2)])), (hb2, .inl (cB, 6000, .inl (zA f2)))]) jP jD jS jA [0] [1, 2, 3] rfl rfl (by decide) (by decide) (va_runV (As := []) (rest := []) ⟨jx, jb, jml, jown, jts⟩ (c_Row_empty l D cI cB cZ H.size h hb L hd hn ov ts tb) (zc_V 0 jts cd_Row_empty lk_Row_29 im_Row_empty se_Row_empty in_Row hd_Row_empty ⟨Nat.le_of_ble_eq_true rfl, Nat.le_of_ble_eq_true rfl⟩ rfl rfl) (z_preV jK jP jD [0] (by decide) rfl rfl rfl rfl) rfl rfl jl.1 rfl (lv_room (Nat.le_of_ble_eq_true rfl)) d_Row_copyFrom_1 ⟨Nat.le_of_ble_eq_true rfl, Nat.le_of_ble_eq_true rfl⟩) (fun u1 H locs hu1 jP jD jS => ?_)
  have jP : va_P D classes [(h, .inr (0, [.ref hb, .int (iZ 0), .int (iZ 0), .int (iZ 0), .int (iZ 0), .int (iZ ts), .int (iZ tb)])), (hb, .inl (cB, 6000, .inl (zA f))), (h2, .inr (0, [.ref hb2, .int (iZ L2), .int (iZ hd2), .int (iZ hn2), .int (iZ ov2), .int (iZ ts2), .int (iZ tb2)])), (hb2, .inl (cB, 6000, .inl (zA f2)))] H := jP.sub [3, 0, 1, 2] rfl
  have jD : va_D A [(h, .inr (0, [.ref hb, .int (iZ 0), .int (iZ 0), .int (iZ 0), .int (iZ 0), .int (iZ ts), .int (iZ tb)])), (hb, .inl (cB, 6000, .inl (zA f))), (h2, .inr (0, [.ref hb2, .int (iZ L2), .int (iZ hd2), .int (iZ hn2), .int (iZ ov2), .int (iZ ts2), .int (iZ tb2)])), (hb2, .inl (cB, 6000, .inl (zA f2)))] := jD.sub [3, 0, 1, 2] (by decide) rfl
  refine lv_aload_n jx jb d_Row_copyFrom_4 rfl (lv_at jl 1 rfl) ?_
  refine va_get (D := D) (ci := 0) (v := .ref hb2) (C := R_Row) (T := F_Row) (N := 7) jx jb jts i_Row jown jK.1 jP 2 rfl rfl 0 (by decide) (jts _ fl_Row_9) (fun _ h9 => h9) rfl d_Row_copyFrom_5 ?_
  refine lv_iconst (v := iZ 0) jx jb d_Row_copyFrom_8 rfl ?_
  refine lv_aload_n jx jb d_Row_copyFrom_9 rfl (lv_at jl 0 rfl) ?_
  refine va_get (D := D) (ci := 0) (v := .ref hb) (C := R_Row) (T := F_Row) (N := 7) jx jb jts i_Row jown jK.1 jP 0 rfl rfl 0 (by decide) (jts _ fl_Row_9) (fun _ h9 => h9) rfl d_Row_copyFrom_10 ?_
  refine lv_iconst (v := iZ 0) jx jb d_Row_copyFrom_13 rfl ?_
  refine lv_sipush (v := iZ 6000) jx jb d_Row_copyFrom_14 (by decide) ?_
  refine z_copyB jx jb (jml.trans jl.1.symm) jown (jts _ lk_Row_32) (jts _ nt_arraycopy) (jts _ st_arraycopy) (jts _ in_System) jK.1 jP jD jS 3 1 1 rfl rfl rfl (hf) (Nat.le_of_ble_eq_true rfl) (by decide) d_Row_copyFrom_17 (fun H locs jP jD jS => ?_)
  have jP : va_P D classes [(h, .inr (0, [.ref hb, .int (iZ 0), .int (iZ 0), .int (iZ 0), .int (iZ 0), .int (iZ ts), .int (iZ tb)])), (hb, .inl (cB, 6000, .inl (zA (fun k => if k < 6000 then f2 k else f k)))), (h2, .inr (0, [.ref hb2, .int (iZ L2), .int (iZ hd2), .int (iZ hn2), .int (iZ ov2), .int (iZ ts2), .int (iZ tb2)])), (hb2, .inl (cB, 6000, .inl (zA f2)))] H := jP
  have jD : va_D A [(h, .inr (0, [.ref hb, .int (iZ 0), .int (iZ 0), .int (iZ 0), .int (iZ 0), .int (iZ ts), .int (iZ tb)])), (hb, .inl (cB, 6000, .inl (zA (fun k => if k < 6000 then f2 k else f k)))), (h2, .inr (0, [.ref hb2, .int (iZ L2), .int (iZ hd2), .int (iZ hn2), .int (iZ ov2), .int (iZ ts2), .int (iZ tb2)])), (hb2, .inl (cB, 6000, .inl (zA f2)))] := jD
  refine lv_aload_n jx jb d_Row_copyFrom_20 rfl (lv_at jl 0 rfl) ?_
  refine lv_aload_n jx jb d_Row_copyFrom_21 rfl (lv_at jl 1 rfl) ?_
  refine va_get (D := D) (ci := 0) (v := .int (iZ L2)) (C := R_Row) (T := F_Row) (N := 7) jx jb jts i_Row jown jK.1 jP 2 rfl rfl 1 (by decide) (jts _ fl_Row_15) (fun _ h9 => h9) rfl d_Row_copyFrom_22 ?_
  refine va_put (D := D) (ci := 0) (v := .int (iZ L2)) (ty := .int) (C := R_Row) (T := F_Row) (N := 7) jx jb jts i_Row t_Row t_Row_ok n_Row jown jK.1 jP jD jS 0 rfl rfl 1 (by decide) (jts _ fl_Row_15) (fun _ h9 => h9) rfl (by decide +kernel) rfl rfl (Nat.le_of_ble_eq_true rfl) d_Row_copyFrom_25 (fun H locs jP jD jS => ?_)
  have jP : va_P D classes [(h, .inr (0, [.ref hb, .int (iZ L2), .int (iZ 0), .int (iZ 0), .int (iZ 0), .int (iZ ts), .int (iZ tb)])), (hb, .inl (cB, 6000, .inl (zA (fun k => if k < 6000 then f2 k else f k)))), (h2, .inr (0, [.ref hb2, .int (iZ L2), .int (iZ hd2), .int (iZ hn2), .int (iZ ov2), .int (iZ ts2), .int (iZ tb2)])), (hb2, .inl (cB, 6000, .inl (zA f2)))] H := jP
  have jD : va_D A [(h, .inr (0, [.ref hb, .int (iZ L2), .int (iZ 0), .int (iZ 0), .int (iZ 0), .int (iZ ts), .int (iZ tb)])), (hb, .inl (cB, 6000, .inl (zA (fun k => if k < 6000 then f2 k else f k)))), (h2, .inr (0, [.ref hb2, .int (iZ L2), .int (iZ hd2), .int (iZ hn2), .int (iZ ov2), .int (iZ ts2), .int (iZ tb2)])), (hb2, .inl (cB, 6000, .inl (zA f2)))] := jD
  exact jret _ _ () _ _ (trivial) (jP.sub [0, 1, 2, 3] rfl) (jD.sub [0, 1, 2, 3] (by decide) rfl) jS d_Row_copyFrom_28
abbrev rm_Row_init : Room := { frames := 1, cells := 1, slots := 6000, locals := 24 }
set_option maxHeartbeats 4000000 in
set_option maxRecDepth 100000 in
theorem c_Row_init (l : Launch) (D : va_G) (cI cB cZ : ClassId) (sz : Nat) (h : Nat) : Met l y_Row_init (.code y_Row_init b_Row_init 1 none :: zT) rm_Row_init (zPc D classes (TY cI cB cZ) [(h, .inr (0, [.null, .int (iZ 0), .int (iZ 0), .int (iZ 0), .int (iZ 0), .int (iZ 0), .int (iZ 0)]))] sz [.ref h]) (zFv (S := Nat) D classes (fun u => True) (fun u => [(h, .inr (0, [.ref u, .int (iZ 0), .int (iZ 0), .int (iZ 0), .int (iZ 0), .int (iZ 0), .int (iZ 0)])), (u, .inl (cB, 6000, .inl (zA (fun _ => 0))))]) (va_A [(h, .inr (0, [.null, .int (iZ 0), .int (iZ 0), .int (iZ 0), .int (iZ 0), .int (iZ 0), .int (iZ 0)]))] sz)) 1 6000 (va_A [(h, .inr (0, [.null, .int (iZ 0), .int (iZ 0), .int (iZ 0), .int (iZ 0), .int (iZ 0), .int (iZ 0)]))] sz) := by
  refine z_ofv (by decide) (Nat.le_of_ble_eq_true rfl) rfl ?_
  intro p e s m args below meth c A Q E jmn jA jK jret H locs jP jD jS ls jl
  obtain ⟨jx, jb, jrt, jml, jown, jts, jlk⟩ := E
  have jown : s.vm.findClass R_Row = some m.cls := jown
  have jl : lv_has ls 1 [(0, .ref h)] := jl
  refine lv_aload_n jx jb d_Row_init_0 rfl (lv_at jl 0 rfl) ?_
  refine W.objInit jx jb jown (jts _ lk_Row_3) (jts _ im_objectInit) (jts _ cd_objectInit) rfl (by rw [jml]; exact jl.1) rfl d_Row_init_1 (Nat.le_of_ble_eq_true rfl) (Nat.le_of_ble_eq_true rfl) ?_
  refine W.eq (g2 := F0 m 4 ls []) rfl ?_
  refine lv_aload_n jx jb d_Row_init_4 rfl (lv_at jl 0 rfl) ?_
  refine lv_sipush (v := iZ 6000) jx jb d_Row_init_5 (by decide) ?_
  refine z_newa jx jb (jts _ ac_byte) rfl rfl rfl jK.1 jP jD jS jA 1 rfl 6000 ⟨rfl, by decide⟩ (Nat.le_of_ble_eq_true rfl) (Nat.le_of_ble_eq_true rfl) d_Row_init_8 (fun w1 H jP jD jS => ?_)
  have jP : va_P D classes [(h, .inr (0, [.null, .int (iZ 0), .int (iZ 0), .int (iZ 0), .int (iZ 0), .int (iZ 0), .int (iZ 0)])), (w1, .inl (cB, 6000, .inl (zA (fun _ => 0))))] H := jP
  have jD : va_D A [(h, .inr (0, [.null, .int (iZ 0), .int (iZ 0), .int (iZ 0), .int (iZ 0), .int (iZ 0), .int (iZ 0)])), (w1, .inl (cB, 6000, .inl (zA (fun _ => 0))))] := jD
  refine va_putF (D := D) (ci := 0) (v := .ref w1) (ty := (.array .byte)) (C := R_Row) (T := F_Row) (N := 7) jx jb jts i_Row t_Row t_Row_ok n_Row jown jK.1 jP jD jS 0 rfl rfl 0 (by decide) (jts _ fl_Row_9) (fun _ h9 => h9) rfl jmn rfl (by decide +kernel) rfl rfl (Nat.le_of_ble_eq_true rfl) d_Row_init_10 (fun H locs jP jD jS => ?_)
  have jP : va_P D classes [(h, .inr (0, [.ref w1, .int (iZ 0), .int (iZ 0), .int (iZ 0), .int (iZ 0), .int (iZ 0), .int (iZ 0)])), (w1, .inl (cB, 6000, .inl (zA (fun _ => 0))))] H := jP
  have jD : va_D A [(h, .inr (0, [.ref w1, .int (iZ 0), .int (iZ 0), .int (iZ 0), .int (iZ 0), .int (iZ 0), .int (iZ 0)])), (w1, .inl (cB, 6000, .inl (zA (fun _ => 0))))] := jD
  exact jret _ _ (w1) _ _ (trivial) (jP.sub [0, 1] rfl) (jD.sub [0, 1] (by decide) rfl) jS d_Row_init_13
end
section
theorem fl_Share_33 : Cond.fieldLink R_Share 33 "StateCoder$Share" "order" "I" ∈ zT := zT_of (List.mem_of_getElem? (i := 97) (by decide +kernel)) rfl
theorem cd_Share_exists : Cond.code y_Share_exists b_Share_exists 1 (some .boolean) ∈ zT := zT_of (List.mem_of_getElem? (i := 264) (by decide +kernel)) rfl
theorem in_Share : Cond.initialized R_Share ∈ zT := zT_of (List.mem_of_getElem? (i := 37) (by decide +kernel)) rfl
theorem hd_Share_exists : y_Share_exists.cls ≠ "java/lang/invoke/MethodHandle" ∧ y_Share_exists.cls ≠ "java/lang/invoke/VarHandle" ∧ (parseMethodDescriptor y_Share_exists.desc).map (fun d => d.parameters.length) = some 0 := by decide +kernel
theorem lk_Share_37 : Cond.methodLink R_Share 37 y_Share_exists ∈ zT := zT_of (List.mem_of_getElem? (i := 261) (by decide +kernel)) rfl
theorem im_Share_exists : Cond.instanceMethod y_Share_exists ∈ zT := zT_of (List.mem_of_getElem? (i := 262) (by decide +kernel)) rfl
theorem se_Share_exists : Cond.selects R_Share y_Share_exists y_Share_exists ∈ zT := zT_of (List.mem_of_getElem? (i := 263) (by decide +kernel)) rfl
theorem cd_Share_cells : Cond.code y_Share_cells b_Share_cells 1 (some .int) ∈ zT := zT_of (List.mem_of_getElem? (i := 256) (by decide +kernel)) rfl
theorem hd_Share_cells : y_Share_cells.cls ≠ "java/lang/invoke/MethodHandle" ∧ y_Share_cells.cls ≠ "java/lang/invoke/VarHandle" ∧ (parseMethodDescriptor y_Share_cells.desc).map (fun d => d.parameters.length) = some 0 := by decide +kernel
theorem lk_Share_41 : Cond.methodLink R_Share 41 y_Share_cells ∈ zT := zT_of (List.mem_of_getElem? (i := 253) (by decide +kernel)) rfl
theorem im_Share_cells : Cond.instanceMethod y_Share_cells ∈ zT := zT_of (List.mem_of_getElem? (i := 254) (by decide +kernel)) rfl
theorem se_Share_cells : Cond.selects R_Share y_Share_cells y_Share_cells ∈ zT := zT_of (List.mem_of_getElem? (i := 255) (by decide +kernel)) rfl
theorem cd_SC_isSymbol : Cond.code y_SC_isSymbol b_SC_isSymbol 1 (some .boolean) ∈ zT := zT_of (List.mem_of_getElem? (i := 205) (by decide +kernel)) rfl
theorem in_SC : Cond.initialized R_SC ∈ zT := zT_of (List.mem_of_getElem? (i := 35) (by decide +kernel)) rfl
theorem hd_SC_isSymbol : y_SC_isSymbol.cls ≠ "java/lang/invoke/MethodHandle" ∧ y_SC_isSymbol.cls ≠ "java/lang/invoke/VarHandle" ∧ (parseMethodDescriptor y_SC_isSymbol.desc).map (fun d => d.parameters.length) = some 1 := by decide +kernel
theorem ln_Share_45 : Cond.methodLinkNest R_Share 45 y_SC_isSymbol R_SC ∈ lw_tbl := List.mem_of_getElem? (i := 281) (by decide +kernel)
theorem st_SC_isSymbol : Cond.static y_SC_isSymbol ∈ zT := zT_of (List.mem_of_getElem? (i := 204) (by decide +kernel)) rfl
theorem fl_Share_9 : Cond.fieldLink R_Share 9 "StateCoder$Share" "points" "[I" ∈ zT := zT_of (List.mem_of_getElem? (i := 90) (by decide +kernel)) rfl
theorem cd_Share_pointsOf : Cond.code y_Share_pointsOf b_Share_pointsOf 2 (some .int) ∈ zT := zT_of (List.mem_of_getElem? (i := 280) (by decide +kernel)) rfl
theorem hd_Share_pointsOf : y_Share_pointsOf.cls ≠ "java/lang/invoke/MethodHandle" ∧ y_Share_pointsOf.cls ≠ "java/lang/invoke/VarHandle" ∧ (parseMethodDescriptor y_Share_pointsOf.desc).map (fun d => d.parameters.length) = some 1 := by decide +kernel
theorem lk_Share_49 : Cond.methodLink R_Share 49 y_Share_pointsOf ∈ zT := zT_of (List.mem_of_getElem? (i := 277) (by decide +kernel)) rfl
theorem im_Share_pointsOf : Cond.instanceMethod y_Share_pointsOf ∈ zT := zT_of (List.mem_of_getElem? (i := 278) (by decide +kernel)) rfl
theorem se_Share_pointsOf : Cond.selects R_Share y_Share_pointsOf y_Share_pointsOf ∈ zT := zT_of (List.mem_of_getElem? (i := 279) (by decide +kernel)) rfl
theorem cd_SC_weight : Cond.code y_SC_weight b_SC_weight 1 (some .int) ∈ zT := zT_of (List.mem_of_getElem? (i := 232) (by decide +kernel)) rfl
theorem hd_SC_weight : y_SC_weight.cls ≠ "java/lang/invoke/MethodHandle" ∧ y_SC_weight.cls ≠ "java/lang/invoke/VarHandle" ∧ (parseMethodDescriptor y_SC_weight.desc).map (fun d => d.parameters.length) = some 1 := by decide +kernel
theorem ln_Share_53 : Cond.methodLinkNest R_Share 53 y_SC_weight R_SC ∈ lw_tbl := List.mem_of_getElem? (i := 282) (by decide +kernel)
theorem st_SC_weight : Cond.static y_SC_weight ∈ zT := zT_of (List.mem_of_getElem? (i := 231) (by decide +kernel)) rfl
theorem cd_Share_hasCell : Cond.code y_Share_hasCell b_Share_hasCell 2 (some .boolean) ∈ zT := zT_of (List.mem_of_getElem? (i := 260) (by decide +kernel)) rfl
theorem hd_Share_hasCell : y_Share_hasCell.cls ≠ "java/lang/invoke/MethodHandle" ∧ y_Share_hasCell.cls ≠ "java/lang/invoke/VarHandle" ∧ (parseMethodDescriptor y_Share_hasCell.desc).map (fun d => d.parameters.length) = some 1 := by decide +kernel
theorem lk_Share_56 : Cond.methodLink R_Share 56 y_Share_hasCell ∈ zT := zT_of (List.mem_of_getElem? (i := 257) (by decide +kernel)) rfl
theorem im_Share_hasCell : Cond.instanceMethod y_Share_hasCell ∈ zT := zT_of (List.mem_of_getElem? (i := 258) (by decide +kernel)) rfl
theorem se_Share_hasCell : Cond.selects R_Share y_Share_hasCell y_Share_hasCell ∈ zT := zT_of (List.mem_of_getElem? (i := 259) (by decide +kernel)) rfl
theorem fl_Share_15 : Cond.fieldLink R_Share 15 "StateCoder$Share" "symbols" "[I" ∈ zT := zT_of (List.mem_of_getElem? (i := 91) (by decide +kernel)) rfl
theorem fl_Share_18 : Cond.fieldLink R_Share 18 "StateCoder$Share" "bits" "[I" ∈ zT := zT_of (List.mem_of_getElem? (i := 92) (by decide +kernel)) rfl
theorem fl_Share_21 : Cond.fieldLink R_Share 21 "StateCoder$Share" "bases" "[I" ∈ zT := zT_of (List.mem_of_getElem? (i := 93) (by decide +kernel)) rfl
theorem fl_Share_27 : Cond.fieldLink R_Share 27 "StateCoder$Share" "firstOfSymbol" "[I" ∈ zT := zT_of (List.mem_of_getElem? (i := 95) (by decide +kernel)) rfl
theorem cd_Share_weightOf : Cond.code y_Share_weightOf b_Share_weightOf 2 (some .int) ∈ zT := zT_of (List.mem_of_getElem? (i := 276) (by decide +kernel)) rfl
theorem hd_Share_weightOf : y_Share_weightOf.cls ≠ "java/lang/invoke/MethodHandle" ∧ y_Share_weightOf.cls ≠ "java/lang/invoke/VarHandle" ∧ (parseMethodDescriptor y_Share_weightOf.desc).map (fun d => d.parameters.length) = some 1 := by decide +kernel
theorem lk_Share_76 : Cond.methodLink R_Share 76 y_Share_weightOf ∈ zT := zT_of (List.mem_of_getElem? (i := 273) (by decide +kernel)) rfl
theorem im_Share_weightOf : Cond.instanceMethod y_Share_weightOf ∈ zT := zT_of (List.mem_of_getElem? (i := 274) (by decide +kernel)) rfl
theorem se_Share_weightOf : Cond.selects R_Share y_Share_weightOf y_Share_weightOf ∈ zT := zT_of (List.mem_of_getElem? (i := 275) (by decide +kernel)) rfl
theorem cd_Share_slotOf : Cond.code y_Share_slotOf b_Share_slotOf 3 (some .int) ∈ zT := zT_of (List.mem_of_getElem? (i := 294) (by decide +kernel)) rfl
theorem hd_Share_slotOf : y_Share_slotOf.cls ≠ "java/lang/invoke/MethodHandle" ∧ y_Share_slotOf.cls ≠ "java/lang/invoke/VarHandle" ∧ (parseMethodDescriptor y_Share_slotOf.desc).map (fun d => d.parameters.length) = some 2 := by decide +kernel
theorem lk_Share_59 : Cond.methodLink R_Share 59 y_Share_slotOf ∈ zT := zT_of (List.mem_of_getElem? (i := 291) (by decide +kernel)) rfl
theorem im_Share_slotOf : Cond.instanceMethod y_Share_slotOf ∈ zT := zT_of (List.mem_of_getElem? (i := 293) (by decide +kernel)) rfl
theorem se_Share_slotOf : Cond.selects R_Share y_Share_slotOf y_Share_slotOf ∈ zT := zT_of (List.mem_of_getElem? (i := 9) (by decide +kernel)) rfl
theorem fl_Share_24 : Cond.fieldLink R_Share 24 "StateCoder$Share" "cellsBySymbol" "[I" ∈ zT := zT_of (List.mem_of_getElem? (i := 94) (by decide +kernel)) rfl
theorem lk_Share_3 : Cond.methodLink R_Share 3 objectInit ∈ zT := zT_of (List.mem_of_getElem? (i := 89) (by decide +kernel)) rfl
theorem ac_int : Cond.arrayClass (newarray.typeOf .int) ∈ zT := zT_of (List.mem_of_getElem? (i := 82) (by decide +kernel)) rfl
theorem fl_Share_30 : Cond.fieldLink R_Share 30 "StateCoder$Share" "nextNumber" "[I" ∈ zT := zT_of (List.mem_of_getElem? (i := 96) (by decide +kernel)) rfl
theorem cd_SC_exponent : Cond.code y_SC_exponent b_SC_exponent 2 (some .int) ∈ zT := zT_of (List.mem_of_getElem? (i := 297) (by decide +kernel)) rfl
theorem hd_SC_exponent : y_SC_exponent.cls ≠ "java/lang/invoke/MethodHandle" ∧ y_SC_exponent.cls ≠ "java/lang/invoke/VarHandle" ∧ (parseMethodDescriptor y_SC_exponent.desc).map (fun d => d.parameters.length) = some 1 := by decide +kernel
theorem ln_Share_83 : Cond.methodLinkNest R_Share 83 y_SC_exponent R_SC ∈ lw_tbl := List.mem_of_getElem? (i := 295) (by decide +kernel)
theorem st_SC_exponent : Cond.static y_SC_exponent ∈ zT := zT_of (List.mem_of_getElem? (i := 296) (by decide +kernel)) rfl
theorem d_Share_exists_0 : decode b_Share_exists 0 = .ok (.aload_n 0, 1) := by decide +kernel
theorem d_Share_exists_1 : decode b_Share_exists 1 = .ok (.getfield 33, 3) := by decide +kernel
theorem d_Share_exists_4 : decode b_Share_exists 4 = .ok (.ifCond .le 7, 3) := by decide +kernel
theorem d_Share_exists_7 : decode b_Share_exists 7 = .ok (.iconst 1, 1) := by decide +kernel
theorem d_Share_exists_8 : decode b_Share_exists 8 = .ok (.goto 4, 3) := by decide +kernel
theorem d_Share_exists_11 : decode b_Share_exists 11 = .ok (.iconst 0, 1) := by decide +kernel
theorem d_Share_exists_12 : decode b_Share_exists 12 = .ok (.ireturn, 1) := by decide +kernel
theorem d_Share_order_0 : decode b_Share_order 0 = .ok (.aload_n 0, 1) := by decide +kernel
theorem d_Share_order_1 : decode b_Share_order 1 = .ok (.getfield 33, 3) := by decide +kernel
theorem d_Share_order_4 : decode b_Share_order 4 = .ok (.ireturn, 1) := by decide +kernel
theorem d_Share_cells_0 : decode b_Share_cells 0 = .ok (.iconst 1, 1) := by decide +kernel
theorem d_Share_cells_1 : decode b_Share_cells 1 = .ok (.aload_n 0, 1) := by decide +kernel
theorem d_Share_cells_2 : decode b_Share_cells 2 = .ok (.getfield 33, 3) := by decide +kernel
theorem d_Share_cells_5 : decode b_Share_cells 5 = .ok (.ishl, 1) := by decide +kernel
theorem d_Share_cells_6 : decode b_Share_cells 6 = .ok (.ireturn, 1) := by decide +kernel
theorem d_Share_hasCell_0 : decode b_Share_hasCell 0 = .ok (.aload_n 0, 1) := by decide +kernel
theorem d_Share_hasCell_1 : decode b_Share_hasCell 1 = .ok (.invokevirtual 37, 3) := by decide +kernel
theorem d_Share_hasCell_4 : decode b_Share_hasCell 4 = .ok (.ifCond .eq 26, 3) := by decide +kernel
theorem d_Share_hasCell_7 : decode b_Share_hasCell 7 = .ok (.iload_n 1, 1) := by decide +kernel
theorem d_Share_hasCell_8 : decode b_Share_hasCell 8 = .ok (.ifCond .lt 22, 3) := by decide +kernel
theorem d_Share_hasCell_11 : decode b_Share_hasCell 11 = .ok (.iload_n 1, 1) := by decide +kernel
theorem d_Share_hasCell_12 : decode b_Share_hasCell 12 = .ok (.aload_n 0, 1) := by decide +kernel
theorem d_Share_hasCell_13 : decode b_Share_hasCell 13 = .ok (.invokevirtual 41, 3) := by decide +kernel
theorem d_Share_hasCell_16 : decode b_Share_hasCell 16 = .ok (.if_icmp .ge 14, 3) := by decide +kernel
theorem d_Share_hasCell_19 : decode b_Share_hasCell 19 = .ok (.iload_n 1, 1) := by decide +kernel
theorem d_Share_hasCell_20 : decode b_Share_hasCell 20 = .ok (.sipush 4096, 3) := by decide +kernel
theorem d_Share_hasCell_23 : decode b_Share_hasCell 23 = .ok (.if_icmp .ge 7, 3) := by decide +kernel
theorem d_Share_hasCell_26 : decode b_Share_hasCell 26 = .ok (.iconst 1, 1) := by decide +kernel
theorem d_Share_hasCell_27 : decode b_Share_hasCell 27 = .ok (.goto 4, 3) := by decide +kernel
theorem d_Share_hasCell_30 : decode b_Share_hasCell 30 = .ok (.iconst 0, 1) := by decide +kernel
theorem d_Share_hasCell_31 : decode b_Share_hasCell 31 = .ok (.ireturn, 1) := by decide +kernel
theorem d_Share_pointsOf_0 : decode b_Share_pointsOf 0 = .ok (.iload_n 1, 1) := by decide +kernel
theorem d_Share_pointsOf_1 : decode b_Share_pointsOf 1 = .ok (.invokestatic 45, 3) := by decide +kernel
theorem d_Share_pointsOf_4 : decode b_Share_pointsOf 4 = .ok (.ifCond .eq 12, 3) := by decide +kernel
theorem d_Share_pointsOf_7 : decode b_Share_pointsOf 7 = .ok (.aload_n 0, 1) := by decide +kernel
theorem d_Share_pointsOf_8 : decode b_Share_pointsOf 8 = .ok (.getfield 9, 3) := by decide +kernel
theorem d_Share_pointsOf_11 : decode b_Share_pointsOf 11 = .ok (.iload_n 1, 1) := by decide +kernel
theorem d_Share_pointsOf_12 : decode b_Share_pointsOf 12 = .ok (.iaload, 1) := by decide +kernel
theorem d_Share_pointsOf_13 : decode b_Share_pointsOf 13 = .ok (.goto 4, 3) := by decide +kernel
theorem d_Share_pointsOf_17 : decode b_Share_pointsOf 17 = .ok (.ireturn, 1) := by decide +kernel
theorem d_Share_weightOf_0 : decode b_Share_weightOf 0 = .ok (.aload_n 0, 1) := by decide +kernel
theorem d_Share_weightOf_1 : decode b_Share_weightOf 1 = .ok (.iload_n 1, 1) := by decide +kernel
theorem d_Share_weightOf_2 : decode b_Share_weightOf 2 = .ok (.invokevirtual 49, 3) := by decide +kernel
theorem d_Share_weightOf_5 : decode b_Share_weightOf 5 = .ok (.invokestatic 53, 3) := by decide +kernel
theorem d_Share_weightOf_8 : decode b_Share_weightOf 8 = .ok (.ireturn, 1) := by decide +kernel
theorem d_Share_lastSymbol_0 : decode b_Share_lastSymbol 0 = .ok (.sipush 255, 3) := by decide +kernel
theorem d_Share_lastSymbol_3 : decode b_Share_lastSymbol 3 = .ok (.istore_n 1, 1) := by decide +kernel
theorem d_Share_lastSymbol_4 : decode b_Share_lastSymbol 4 = .ok (.iload_n 1, 1) := by decide +kernel
theorem d_Share_lastSymbol_5 : decode b_Share_lastSymbol 5 = .ok (.ifCond .le 18, 3) := by decide +kernel
theorem d_Share_lastSymbol_8 : decode b_Share_lastSymbol 8 = .ok (.aload_n 0, 1) := by decide +kernel
theorem d_Share_lastSymbol_9 : decode b_Share_lastSymbol 9 = .ok (.getfield 9, 3) := by decide +kernel
theorem d_Share_lastSymbol_12 : decode b_Share_lastSymbol 12 = .ok (.iload_n 1, 1) := by decide +kernel
theorem d_Share_lastSymbol_13 : decode b_Share_lastSymbol 13 = .ok (.iaload, 1) := by decide +kernel
theorem d_Share_lastSymbol_14 : decode b_Share_lastSymbol 14 = .ok (.ifCond .ne 9, 3) := by decide +kernel
theorem d_Share_lastSymbol_17 : decode b_Share_lastSymbol 17 = .ok (.iinc 1 (-1), 3) := by decide +kernel
theorem d_Share_lastSymbol_20 : decode b_Share_lastSymbol 20 = .ok (.goto (-16), 3) := by decide +kernel
theorem d_Share_lastSymbol_23 : decode b_Share_lastSymbol 23 = .ok (.iload_n 1, 1) := by decide +kernel
theorem d_Share_lastSymbol_24 : decode b_Share_lastSymbol 24 = .ok (.ireturn, 1) := by decide +kernel
theorem d_Share_symbolOf_0 : decode b_Share_symbolOf 0 = .ok (.aload_n 0, 1) := by decide +kernel
theorem d_Share_symbolOf_1 : decode b_Share_symbolOf 1 = .ok (.iload_n 1, 1) := by decide +kernel
theorem d_Share_symbolOf_2 : decode b_Share_symbolOf 2 = .ok (.invokevirtual 56, 3) := by decide +kernel
theorem d_Share_symbolOf_5 : decode b_Share_symbolOf 5 = .ok (.ifCond .eq 12, 3) := by decide +kernel
theorem d_Share_symbolOf_8 : decode b_Share_symbolOf 8 = .ok (.aload_n 0, 1) := by decide +kernel
theorem d_Share_symbolOf_9 : decode b_Share_symbolOf 9 = .ok (.getfield 15, 3) := by decide +kernel
theorem d_Share_symbolOf_12 : decode b_Share_symbolOf 12 = .ok (.iload_n 1, 1) := by decide +kernel
theorem d_Share_symbolOf_13 : decode b_Share_symbolOf 13 = .ok (.iaload, 1) := by decide +kernel
theorem d_Share_symbolOf_14 : decode b_Share_symbolOf 14 = .ok (.goto 4, 3) := by decide +kernel
theorem d_Share_symbolOf_18 : decode b_Share_symbolOf 18 = .ok (.ireturn, 1) := by decide +kernel
theorem d_Share_bitsOf_0 : decode b_Share_bitsOf 0 = .ok (.aload_n 0, 1) := by decide +kernel
theorem d_Share_bitsOf_1 : decode b_Share_bitsOf 1 = .ok (.iload_n 1, 1) := by decide +kernel
theorem d_Share_bitsOf_2 : decode b_Share_bitsOf 2 = .ok (.invokevirtual 56, 3) := by decide +kernel
theorem d_Share_bitsOf_5 : decode b_Share_bitsOf 5 = .ok (.ifCond .eq 12, 3) := by decide +kernel
theorem d_Share_bitsOf_8 : decode b_Share_bitsOf 8 = .ok (.aload_n 0, 1) := by decide +kernel
theorem d_Share_bitsOf_9 : decode b_Share_bitsOf 9 = .ok (.getfield 18, 3) := by decide +kernel
theorem d_Share_bitsOf_12 : decode b_Share_bitsOf 12 = .ok (.iload_n 1, 1) := by decide +kernel
theorem d_Share_bitsOf_13 : decode b_Share_bitsOf 13 = .ok (.iaload, 1) := by decide +kernel
theorem d_Share_bitsOf_14 : decode b_Share_bitsOf 14 = .ok (.goto 4, 3) := by decide +kernel
theorem d_Share_bitsOf_18 : decode b_Share_bitsOf 18 = .ok (.ireturn, 1) := by decide +kernel
theorem d_Share_baseOf_0 : decode b_Share_baseOf 0 = .ok (.aload_n 0, 1) := by decide +kernel
theorem d_Share_baseOf_1 : decode b_Share_baseOf 1 = .ok (.iload_n 1, 1) := by decide +kernel
theorem d_Share_baseOf_2 : decode b_Share_baseOf 2 = .ok (.invokevirtual 56, 3) := by decide +kernel
theorem d_Share_baseOf_5 : decode b_Share_baseOf 5 = .ok (.ifCond .eq 12, 3) := by decide +kernel
theorem d_Share_baseOf_8 : decode b_Share_baseOf 8 = .ok (.aload_n 0, 1) := by decide +kernel
theorem d_Share_baseOf_9 : decode b_Share_baseOf 9 = .ok (.getfield 21, 3) := by decide +kernel
theorem d_Share_baseOf_12 : decode b_Share_baseOf 12 = .ok (.iload_n 1, 1) := by decide +kernel
theorem d_Share_baseOf_13 : decode b_Share_baseOf 13 = .ok (.iaload, 1) := by decide +kernel
theorem d_Share_baseOf_14 : decode b_Share_baseOf 14 = .ok (.goto 4, 3) := by decide +kernel
theorem d_Share_baseOf_18 : decode b_Share_baseOf 18 = .ok (.ireturn, 1) := by decide +kernel
theorem d_Share_slotOf_0 : decode b_Share_slotOf 0 = .ok (.iload_n 1, 1) := by decide +kernel
theorem d_Share_slotOf_1 : decode b_Share_slotOf 1 = .ok (.invokestatic 45, 3) := by decide +kernel
theorem d_Share_slotOf_4 : decode b_Share_slotOf 4 = .ok (.ifCond .eq 20, 3) := by decide +kernel
theorem d_Share_slotOf_7 : decode b_Share_slotOf 7 = .ok (.aload_n 0, 1) := by decide +kernel
theorem d_Share_slotOf_8 : decode b_Share_slotOf 8 = .ok (.getfield 27, 3) := by decide +kernel
theorem d_Share_slotOf_11 : decode b_Share_slotOf 11 = .ok (.iload_n 1, 1) := by decide +kernel
theorem d_Share_slotOf_12 : decode b_Share_slotOf 12 = .ok (.iaload, 1) := by decide +kernel
theorem d_Share_slotOf_13 : decode b_Share_slotOf 13 = .ok (.iload_n 2, 1) := by decide +kernel
theorem d_Share_slotOf_14 : decode b_Share_slotOf 14 = .ok (.iadd, 1) := by decide +kernel
theorem d_Share_slotOf_15 : decode b_Share_slotOf 15 = .ok (.aload_n 0, 1) := by decide +kernel
theorem d_Share_slotOf_16 : decode b_Share_slotOf 16 = .ok (.iload_n 1, 1) := by decide +kernel
theorem d_Share_slotOf_17 : decode b_Share_slotOf 17 = .ok (.invokevirtual 76, 3) := by decide +kernel
theorem d_Share_slotOf_20 : decode b_Share_slotOf 20 = .ok (.isub, 1) := by decide +kernel
theorem d_Share_slotOf_21 : decode b_Share_slotOf 21 = .ok (.goto 4, 3) := by decide +kernel
theorem d_Share_slotOf_25 : decode b_Share_slotOf 25 = .ok (.ireturn, 1) := by decide +kernel
theorem d_Share_cellOf_0 : decode b_Share_cellOf 0 = .ok (.aload_n 0, 1) := by decide +kernel
theorem d_Share_cellOf_1 : decode b_Share_cellOf 1 = .ok (.iload_n 1, 1) := by decide +kernel
theorem d_Share_cellOf_2 : decode b_Share_cellOf 2 = .ok (.iload_n 2, 1) := by decide +kernel
theorem d_Share_cellOf_3 : decode b_Share_cellOf 3 = .ok (.invokevirtual 59, 3) := by decide +kernel
theorem d_Share_cellOf_6 : decode b_Share_cellOf 6 = .ok (.istore_n 3, 1) := by decide +kernel
theorem d_Share_cellOf_7 : decode b_Share_cellOf 7 = .ok (.aload_n 0, 1) := by decide +kernel
theorem d_Share_cellOf_8 : decode b_Share_cellOf 8 = .ok (.iload_n 3, 1) := by decide +kernel
theorem d_Share_cellOf_9 : decode b_Share_cellOf 9 = .ok (.invokevirtual 56, 3) := by decide +kernel
theorem d_Share_cellOf_12 : decode b_Share_cellOf 12 = .ok (.ifCond .eq 12, 3) := by decide +kernel
theorem d_Share_cellOf_15 : decode b_Share_cellOf 15 = .ok (.aload_n 0, 1) := by decide +kernel
theorem d_Share_cellOf_16 : decode b_Share_cellOf 16 = .ok (.getfield 24, 3) := by decide +kernel
theorem d_Share_cellOf_19 : decode b_Share_cellOf 19 = .ok (.iload_n 3, 1) := by decide +kernel
theorem d_Share_cellOf_20 : decode b_Share_cellOf 20 = .ok (.iaload, 1) := by decide +kernel
theorem d_Share_cellOf_21 : decode b_Share_cellOf 21 = .ok (.goto 4, 3) := by decide +kernel
theorem d_Share_cellOf_25 : decode b_Share_cellOf 25 = .ok (.ireturn, 1) := by decide +kernel
theorem d_Share_init_0 : decode b_Share_init 0 = .ok (.aload_n 0, 1) := by decide +kernel
theorem d_Share_init_1 : decode b_Share_init 1 = .ok (.invokespecial 3, 3) := by decide +kernel
theorem d_Share_init_4 : decode b_Share_init 4 = .ok (.aload_n 0, 1) := by decide +kernel
theorem d_Share_init_5 : decode b_Share_init 5 = .ok (.sipush 256, 3) := by decide +kernel
theorem d_Share_init_8 : decode b_Share_init 8 = .ok (.newarray .int, 2) := by decide +kernel
theorem d_Share_init_10 : decode b_Share_init 10 = .ok (.putfield 9, 3) := by decide +kernel
theorem d_Share_init_13 : decode b_Share_init 13 = .ok (.aload_n 0, 1) := by decide +kernel
theorem d_Share_init_14 : decode b_Share_init 14 = .ok (.sipush 4096, 3) := by decide +kernel
theorem d_Share_init_17 : decode b_Share_init 17 = .ok (.newarray .int, 2) := by decide +kernel
theorem d_Share_init_19 : decode b_Share_init 19 = .ok (.putfield 15, 3) := by decide +kernel
theorem d_Share_init_22 : decode b_Share_init 22 = .ok (.aload_n 0, 1) := by decide +kernel
theorem d_Share_init_23 : decode b_Share_init 23 = .ok (.sipush 4096, 3) := by decide +kernel
theorem d_Share_init_26 : decode b_Share_init 26 = .ok (.newarray .int, 2) := by decide +kernel
theorem d_Share_init_28 : decode b_Share_init 28 = .ok (.putfield 18, 3) := by decide +kernel
theorem d_Share_init_31 : decode b_Share_init 31 = .ok (.aload_n 0, 1) := by decide +kernel
theorem d_Share_init_32 : decode b_Share_init 32 = .ok (.sipush 4096, 3) := by decide +kernel
theorem d_Share_init_35 : decode b_Share_init 35 = .ok (.newarray .int, 2) := by decide +kernel
theorem d_Share_init_37 : decode b_Share_init 37 = .ok (.putfield 21, 3) := by decide +kernel
theorem d_Share_init_40 : decode b_Share_init 40 = .ok (.aload_n 0, 1) := by decide +kernel
theorem d_Share_init_41 : decode b_Share_init 41 = .ok (.sipush 4096, 3) := by decide +kernel
theorem d_Share_init_44 : decode b_Share_init 44 = .ok (.newarray .int, 2) := by decide +kernel
theorem d_Share_init_46 : decode b_Share_init 46 = .ok (.putfield 24, 3) := by decide +kernel
theorem d_Share_init_49 : decode b_Share_init 49 = .ok (.aload_n 0, 1) := by decide +kernel
theorem d_Share_init_50 : decode b_Share_init 50 = .ok (.sipush 256, 3) := by decide +kernel
theorem d_Share_init_53 : decode b_Share_init 53 = .ok (.newarray .int, 2) := by decide +kernel
theorem d_Share_init_55 : decode b_Share_init 55 = .ok (.putfield 27, 3) := by decide +kernel
theorem d_Share_init_58 : decode b_Share_init 58 = .ok (.aload_n 0, 1) := by decide +kernel
theorem d_Share_init_59 : decode b_Share_init 59 = .ok (.sipush 256, 3) := by decide +kernel
theorem d_Share_init_62 : decode b_Share_init 62 = .ok (.newarray .int, 2) := by decide +kernel
theorem d_Share_init_64 : decode b_Share_init 64 = .ok (.putfield 30, 3) := by decide +kernel
theorem d_Share_init_67 : decode b_Share_init 67 = .ok (.return_, 1) := by decide +kernel
theorem d_Share_giveNumber_0 : decode b_Share_giveNumber 0 = .ok (.aload_n 0, 1) := by decide +kernel
theorem d_Share_giveNumber_1 : decode b_Share_giveNumber 1 = .ok (.iload_n 2, 1) := by decide +kernel
theorem d_Share_giveNumber_2 : decode b_Share_giveNumber 2 = .ok (.iload_n 3, 1) := by decide +kernel
theorem d_Share_giveNumber_3 : decode b_Share_giveNumber 3 = .ok (.invokevirtual 59, 3) := by decide +kernel
theorem d_Share_giveNumber_6 : decode b_Share_giveNumber 6 = .ok (.istore 4, 2) := by decide +kernel
theorem d_Share_giveNumber_8 : decode b_Share_giveNumber 8 = .ok (.aload_n 0, 1) := by decide +kernel
theorem d_Share_giveNumber_9 : decode b_Share_giveNumber 9 = .ok (.iload_n 1, 1) := by decide +kernel
theorem d_Share_giveNumber_10 : decode b_Share_giveNumber 10 = .ok (.invokevirtual 56, 3) := by decide +kernel
theorem d_Share_giveNumber_13 : decode b_Share_giveNumber 13 = .ok (.ifCond .eq 54, 3) := by decide +kernel
theorem d_Share_giveNumber_16 : decode b_Share_giveNumber 16 = .ok (.aload_n 0, 1) := by decide +kernel
theorem d_Share_giveNumber_17 : decode b_Share_giveNumber 17 = .ok (.iload 4, 2) := by decide +kernel
theorem d_Share_giveNumber_19 : decode b_Share_giveNumber 19 = .ok (.invokevirtual 56, 3) := by decide +kernel
theorem d_Share_giveNumber_22 : decode b_Share_giveNumber 22 = .ok (.ifCond .eq 45, 3) := by decide +kernel
theorem d_Share_giveNumber_25 : decode b_Share_giveNumber 25 = .ok (.aload_n 0, 1) := by decide +kernel
theorem d_Share_giveNumber_26 : decode b_Share_giveNumber 26 = .ok (.getfield 24, 3) := by decide +kernel
theorem d_Share_giveNumber_29 : decode b_Share_giveNumber 29 = .ok (.iload 4, 2) := by decide +kernel
theorem d_Share_giveNumber_31 : decode b_Share_giveNumber 31 = .ok (.iload_n 1, 1) := by decide +kernel
theorem d_Share_giveNumber_32 : decode b_Share_giveNumber 32 = .ok (.iastore, 1) := by decide +kernel
theorem d_Share_giveNumber_33 : decode b_Share_giveNumber 33 = .ok (.aload_n 0, 1) := by decide +kernel
theorem d_Share_giveNumber_34 : decode b_Share_giveNumber 34 = .ok (.getfield 18, 3) := by decide +kernel
theorem d_Share_giveNumber_37 : decode b_Share_giveNumber 37 = .ok (.iload_n 1, 1) := by decide +kernel
theorem d_Share_giveNumber_38 : decode b_Share_giveNumber 38 = .ok (.aload_n 0, 1) := by decide +kernel
theorem d_Share_giveNumber_39 : decode b_Share_giveNumber 39 = .ok (.getfield 33, 3) := by decide +kernel
theorem d_Share_giveNumber_42 : decode b_Share_giveNumber 42 = .ok (.iload_n 3, 1) := by decide +kernel
theorem d_Share_giveNumber_43 : decode b_Share_giveNumber 43 = .ok (.invokestatic 83, 3) := by decide +kernel
theorem d_Share_giveNumber_46 : decode b_Share_giveNumber 46 = .ok (.isub, 1) := by decide +kernel
theorem d_Share_giveNumber_47 : decode b_Share_giveNumber 47 = .ok (.iastore, 1) := by decide +kernel
theorem d_Share_giveNumber_48 : decode b_Share_giveNumber 48 = .ok (.aload_n 0, 1) := by decide +kernel
theorem d_Share_giveNumber_49 : decode b_Share_giveNumber 49 = .ok (.getfield 21, 3) := by decide +kernel
theorem d_Share_giveNumber_52 : decode b_Share_giveNumber 52 = .ok (.iload_n 1, 1) := by decide +kernel
theorem d_Share_giveNumber_53 : decode b_Share_giveNumber 53 = .ok (.iload_n 3, 1) := by decide +kernel
theorem d_Share_giveNumber_54 : decode b_Share_giveNumber 54 = .ok (.aload_n 0, 1) := by decide +kernel
theorem d_Share_giveNumber_55 : decode b_Share_giveNumber 55 = .ok (.getfield 18, 3) := by decide +kernel
theorem d_Share_giveNumber_58 : decode b_Share_giveNumber 58 = .ok (.iload_n 1, 1) := by decide +kernel
theorem d_Share_giveNumber_59 : decode b_Share_giveNumber 59 = .ok (.iaload, 1) := by decide +kernel
theorem d_Share_giveNumber_60 : decode b_Share_giveNumber 60 = .ok (.ishl, 1) := by decide +kernel
theorem d_Share_giveNumber_61 : decode b_Share_giveNumber 61 = .ok (.aload_n 0, 1) := by decide +kernel
theorem d_Share_giveNumber_62 : decode b_Share_giveNumber 62 = .ok (.invokevirtual 41, 3) := by decide +kernel
theorem d_Share_giveNumber_65 : decode b_Share_giveNumber 65 = .ok (.isub, 1) := by decide +kernel
theorem d_Share_giveNumber_66 : decode b_Share_giveNumber 66 = .ok (.iastore, 1) := by decide +kernel
theorem d_Share_giveNumber_67 : decode b_Share_giveNumber 67 = .ok (.return_, 1) := by decide +kernel
theorem d_Share_startNumbers_0 : decode b_Share_startNumbers 0 = .ok (.iconst 0, 1) := by decide +kernel
theorem d_Share_startNumbers_1 : decode b_Share_startNumbers 1 = .ok (.istore_n 1, 1) := by decide +kernel
theorem d_Share_startNumbers_2 : decode b_Share_startNumbers 2 = .ok (.iconst 0, 1) := by decide +kernel
theorem d_Share_startNumbers_3 : decode b_Share_startNumbers 3 = .ok (.istore_n 2, 1) := by decide +kernel
theorem d_Share_startNumbers_4 : decode b_Share_startNumbers 4 = .ok (.iload_n 2, 1) := by decide +kernel
theorem d_Share_startNumbers_5 : decode b_Share_startNumbers 5 = .ok (.sipush 256, 3) := by decide +kernel
theorem d_Share_startNumbers_8 : decode b_Share_startNumbers 8 = .ok (.if_icmp .ge 35, 3) := by decide +kernel
theorem d_Share_startNumbers_11 : decode b_Share_startNumbers 11 = .ok (.aload_n 0, 1) := by decide +kernel
theorem d_Share_startNumbers_12 : decode b_Share_startNumbers 12 = .ok (.getfield 27, 3) := by decide +kernel
theorem d_Share_startNumbers_15 : decode b_Share_startNumbers 15 = .ok (.iload_n 2, 1) := by decide +kernel
theorem d_Share_startNumbers_16 : decode b_Share_startNumbers 16 = .ok (.iload_n 1, 1) := by decide +kernel
theorem d_Share_startNumbers_17 : decode b_Share_startNumbers 17 = .ok (.iastore, 1) := by decide +kernel
theorem d_Share_startNumbers_18 : decode b_Share_startNumbers 18 = .ok (.aload_n 0, 1) := by decide +kernel
theorem d_Share_startNumbers_19 : decode b_Share_startNumbers 19 = .ok (.getfield 30, 3) := by decide +kernel
theorem d_Share_startNumbers_22 : decode b_Share_startNumbers 22 = .ok (.iload_n 2, 1) := by decide +kernel
theorem d_Share_startNumbers_23 : decode b_Share_startNumbers 23 = .ok (.aload_n 0, 1) := by decide +kernel
theorem d_Share_startNumbers_24 : decode b_Share_startNumbers 24 = .ok (.iload_n 2, 1) := by decide +kernel
theorem d_Share_startNumbers_25 : decode b_Share_startNumbers 25 = .ok (.invokevirtual 76, 3) := by decide +kernel
theorem d_Share_startNumbers_28 : decode b_Share_startNumbers 28 = .ok (.iastore, 1) := by decide +kernel
theorem d_Share_startNumbers_29 : decode b_Share_startNumbers 29 = .ok (.iload_n 1, 1) := by decide +kernel
theorem d_Share_startNumbers_30 : decode b_Share_startNumbers 30 = .ok (.aload_n 0, 1) := by decide +kernel
theorem d_Share_startNumbers_31 : decode b_Share_startNumbers 31 = .ok (.iload_n 2, 1) := by decide +kernel
theorem d_Share_startNumbers_32 : decode b_Share_startNumbers 32 = .ok (.invokevirtual 76, 3) := by decide +kernel
theorem d_Share_startNumbers_35 : decode b_Share_startNumbers 35 = .ok (.iadd, 1) := by decide +kernel
theorem d_Share_startNumbers_36 : decode b_Share_startNumbers 36 = .ok (.istore_n 1, 1) := by decide +kernel
theorem d_Share_startNumbers_37 : decode b_Share_startNumbers 37 = .ok (.iinc 2 1, 3) := by decide +kernel
theorem d_Share_startNumbers_40 : decode b_Share_startNumbers 40 = .ok (.goto (-36), 3) := by decide +kernel
theorem d_Share_startNumbers_43 : decode b_Share_startNumbers 43 = .ok (.return_, 1) := by decide +kernel
abbrev rm_Share_exists : Room := { frames := 0, cells := 0, slots := 0, locals := 0 }
set_option maxHeartbeats 4000000 in
set_option maxRecDepth 100000 in
theorem c_Share_exists (l : Launch) (D : va_G) (cI cB cZ : ClassId) (h : Nat) (pP : Nat) (pS : Nat) (pB : Nat) (pA : Nat) (pC : Nat) (pF : Nat) (pN : Nat) (o : Nat) (ho : o ≤ 12) : Met l y_Share_exists (.code y_Share_exists b_Share_exists 1 (some .boolean) :: zT) rm_Share_exists (zRc D classes (TY cI cB cZ) [(h, .inr (1, [.ref pP, .ref pS, .ref pB, .ref pA, .ref pC, .ref pF, .ref pN, .int (iZ (o : Int))]))] [.ref h]) (zSi (fun z => (z = 1 ∧ 0 < o) ∨ (z = 0 ∧ o = 0))) 0 0 (fun _ => False) := by
  refine z_ofr (by decide) (Nat.le_of_ble_eq_true rfl) (Or.inr rfl) ?_
  intro p e s m args below meth c Q E jP jK jret ls jl
  obtain ⟨jx, jb, jrt, jml, jown, jts, jlk⟩ := E
  have jown : s.vm.findClass R_Share = some m.cls := jown
  have jl : lv_has ls 1 [(0, .ref h)] := jl
  refine lv_aload_n jx jb d_Share_exists_0 rfl (lv_at jl 0 rfl) ?_
  refine va_get (D := D) (ci := 1) (v := .int (iZ (o : Int))) (C := R_Share) (T := F_Share) (N := 8) jx jb jts i_Share jown jK.1 jP 0 rfl rfl 7 (by decide) (jts _ fl_Share_33) (fun _ h9 => h9) rfl d_Share_exists_1 ?_
  refine z_if_le (tgt := 11) jx jb d_Share_exists_4 (by decide) ⟨by omega, by omega⟩ (fun hc4 => ?_) (fun hc4 => ?_)
  ·
    refine lv_iconst (v := iZ 0) jx jb d_Share_exists_11 rfl ?_
    exact jret _ _ _ (Or.inr (Or.inl rfl)) (by omega) d_Share_exists_12
  ·
    refine lv_iconst (v := iZ 1) jx jb d_Share_exists_7 rfl ?_
    refine lv_goto (tgt := 12) jx jb d_Share_exists_8 (by decide) ?_
    exact jret _ _ _ (Or.inr (Or.inr rfl)) (by omega) d_Share_exists_12
abbrev rm_Share_order : Room := { frames := 0, cells := 0, slots := 0, locals := 0 }
set_option maxHeartbeats 4000000 in
set_option maxRecDepth 100000 in
theorem c_Share_order (l : Launch) (D : va_G) (cI cB cZ : ClassId) (h : Nat) (pP : Nat) (pS : Nat) (pB : Nat) (pA : Nat) (pC : Nat) (pF : Nat) (pN : Nat) (o : Nat) : Met l y_Share_order (.code y_Share_order b_Share_order 1 (some .int) :: zT) rm_Share_order (zRc D classes (TY cI cB cZ) [(h, .inr (1, [.ref pP, .ref pS, .ref pB, .ref pA, .ref pC, .ref pF, .ref pN, .int (iZ (o : Int))]))] [.ref h]) (zSi (fun z => z = (o : Int))) 0 0 (fun _ => False) := by
  refine z_ofr (by decide) (Nat.le_of_ble_eq_true rfl) (Or.inl rfl) ?_
  intro p e s m args below meth c Q E jP jK jret ls jl
  obtain ⟨jx, jb, jrt, jml, jown, jts, jlk⟩ := E
  have jown : s.vm.findClass R_Share = some m.cls := jown
  have jl : lv_has ls 1 [(0, .ref h)] := jl
  refine lv_aload_n jx jb d_Share_order_0 rfl (lv_at jl 0 rfl) ?_
  refine va_get (D := D) (ci := 1) (v := .int (iZ (o : Int))) (C := R_Share) (T := F_Share) (N := 8) jx jb jts i_Share jown jK.1 jP 0 rfl rfl 7 (by decide) (jts _ fl_Share_33) (fun _ h9 => h9) rfl d_Share_order_1 ?_
  exact jret _ _ _ (Or.inl rfl) (rfl) d_Share_order_4
abbrev rm_Share_cells : Room := { frames := 0, cells := 0, slots := 0, locals := 0 }
set_option maxHeartbeats 4000000 in
set_option maxRecDepth 100000 in
theorem c_Share_cells (l : Launch) (D : va_G) (cI cB cZ : ClassId) (h : Nat) (pP : Nat) (pS : Nat) (pB : Nat) (pA : Nat) (pC : Nat) (pF : Nat) (pN : Nat) (o : Nat) (ho : o ≤ 12) : Met l y_Share_cells (.code y_Share_cells b_Share_cells 1 (some .int) :: zT) rm_Share_cells (zRc D classes (TY cI cB cZ) [(h, .inr (1, [.ref pP, .ref pS, .ref pB, .ref pA, .ref pC, .ref pF, .ref pN, .int (iZ (o : Int))]))] [.ref h]) (zSi (fun z => z = 2 ^ o)) 0 0 (fun _ => False) := by
  refine z_ofr (by decide) (Nat.le_of_ble_eq_true rfl) (Or.inl rfl) ?_
  intro p e s m args below meth c Q E jP jK jret ls jl
  obtain ⟨jx, jb, jrt, jml, jown, jts, jlk⟩ := E
  have jown : s.vm.findClass R_Share = some m.cls := jown
  have jl : lv_has ls 1 [(0, .ref h)] := jl
  refine lv_iconst (v := iZ 1) jx jb d_Share_cells_0 rfl ?_
  refine lv_aload_n jx jb d_Share_cells_1 rfl (lv_at jl 0 rfl) ?_
  refine va_get (D := D) (ci := 1) (v := .int (iZ (o : Int))) (C := R_Share) (T := F_Share) (N := 8) jx jb jts i_Share jown jK.1 jP 0 rfl rfl 7 (by decide) (jts _ fl_Share_33) (fun _ h9 => h9) rfl d_Share_cells_2 ?_
  refine z_ishl jx jb d_Share_cells_5 o (2 ^ o) (rfl) (by omega) ?_
  refine z_top (2 ^ o) (Int.one_mul _) ?_
  exact jret _ _ _ (Or.inl rfl) (rfl) d_Share_cells_6
abbrev rm_Share_hasCell : Room := { frames := 1, cells := 0, slots := 0, locals := 20 }
set_option maxHeartbeats 4000000 in
set_option maxRecDepth 100000 in
theorem c_Share_hasCell (l : Launch) (D : va_G) (cI cB cZ : ClassId) (h : Nat) (pP : Nat) (pS : Nat) (pB : Nat) (pA : Nat) (pC : Nat) (pF : Nat) (pN : Nat) (o : Nat) (k : Int) (ho : o ≤ 12) (hk : -2147483648 ≤ k ∧ k < 2147483648) : Met l y_Share_hasCell (.code y_Share_hasCell b_Share_hasCell 2 (some .boolean) :: zT) rm_Share_hasCell (zRc D classes (TY cI cB cZ) [(h, .inr (1, [.ref pP, .ref pS, .ref pB, .ref pA, .ref pC, .ref pF, .ref pN, .int (iZ (o : Int))]))] [.ref h, .int (iZ k)]) (zSi (fun z => (z = 1 ∧ 0 < o ∧ 0 ≤ k ∧ k < 2 ^ o) ∨ (z = 0 ∧ (o = 0 ∨ k < 0 ∨ 2 ^ o ≤ k)))) 0 0 (fun _ => False) := by
  refine z_ofr (by decide) (Nat.le_of_ble_eq_true rfl) (Or.inr rfl) ?_
  intro p e s m args below meth c Q E jP jK jret ls jl
  obtain ⟨jx, jb, jrt, jml, jown, jts, jlk⟩ := E
  have jown : s.vm.findClass R_Share = some m.cls := jown
  have hp12 := p2_le ho
  have hp0 := p2_pos o
  have jl : lv_has ls 2 [(0, .ref h), (1, .int (iZ k))] := jl
  refine lv_aload_n jx jb d_Share_hasCell_0 rfl (lv_at jl 0 rfl) ?_
  refine z_backr (va_runV (As := []) (rest := []) ⟨jx, jb, jml, jown, jts⟩ (c_Share_exists l D cI cB cZ h pP pS pB pA pC pF pN o (by first | assumption | omega)) (zc_V 0 jts cd_Share_exists lk_Share_37 im_Share_exists se_Share_exists in_Share hd_Share_exists ⟨Nat.le_of_ble_eq_true rfl, Nat.le_of_ble_eq_true rfl⟩ rfl rfl) (z_preVR jK jP [0] rfl rfl rfl) rfl rfl jl.1 rfl (lv_room (Nat.le_of_ble_eq_true rfl)) d_Share_hasCell_1 ⟨Nat.le_of_ble_eq_true rfl, Nat.le_of_ble_eq_true rfl⟩) (fun z1 hz1 => ?_)
  rcases hz1 with ⟨rfl, hq1⟩ | ⟨rfl, hq1⟩
  ·
    refine z_if_eq (tgt := 30) jx jb d_Share_hasCell_4 (by decide) ⟨by decide, by decide⟩ (fun hc4 => ?_) (fun hc4 => ?_)
    ·
      exact absurd hc4 (by decide)
    ·
      refine lv_iload_n jx jb d_Share_hasCell_7 rfl (lv_at jl 1 rfl) ?_
      refine z_if_lt (tgt := 30) jx jb d_Share_hasCell_8 (by decide) ⟨by omega, by omega⟩ (fun hc8 => ?_) (fun hc8 => ?_)
      ·
        refine lv_iconst (v := iZ 0) jx jb d_Share_hasCell_30 rfl ?_
        exact jret _ _ _ (Or.inr (Or.inl rfl)) (by omega) d_Share_hasCell_31
      ·
        refine lv_iload_n jx jb d_Share_hasCell_11 rfl (lv_at jl 1 rfl) ?_
        refine lv_aload_n jx jb d_Share_hasCell_12 rfl (lv_at jl 0 rfl) ?_
        refine z_backe (va_runV (As := []) (rest := [.int (iZ k)]) ⟨jx, jb, jml, jown, jts⟩ (c_Share_cells l D cI cB cZ h pP pS pB pA pC pF pN o (by first | assumption | omega)) (zc_V 0 jts cd_Share_cells lk_Share_41 im_Share_cells se_Share_cells in_Share hd_Share_cells ⟨Nat.le_of_ble_eq_true rfl, Nat.le_of_ble_eq_true rfl⟩ rfl rfl) (z_preVR jK jP [0] rfl rfl rfl) rfl rfl jl.1 rfl (lv_room (Nat.le_of_ble_eq_true rfl)) d_Share_hasCell_13 ⟨Nat.le_of_ble_eq_true rfl, Nat.le_of_ble_eq_true rfl⟩) ?_
        refine z_icmp_ge (tgt := 30) jx jb d_Share_hasCell_16 (by decide) ⟨⟨by omega, by omega⟩, ⟨by omega, by omega⟩⟩ (fun hc16 => ?_) (fun hc16 => ?_)
        ·
          refine lv_iconst (v := iZ 0) jx jb d_Share_hasCell_30 rfl ?_
          exact jret _ _ _ (Or.inr (Or.inl rfl)) (by omega) d_Share_hasCell_31
        ·
          refine lv_iload_n jx jb d_Share_hasCell_19 rfl (lv_at jl 1 rfl) ?_
          refine lv_sipush (v := iZ 4096) jx jb d_Share_hasCell_20 (by decide) ?_
          refine z_icmp_ge (tgt := 30) jx jb d_Share_hasCell_23 (by decide) ⟨⟨by omega, by omega⟩, ⟨by decide, by decide⟩⟩ (fun hc23 => ?_) (fun hc23 => ?_)
          ·
            exfalso; omega
          ·
            refine lv_iconst (v := iZ 1) jx jb d_Share_hasCell_26 rfl ?_
            refine lv_goto (tgt := 31) jx jb d_Share_hasCell_27 (by decide) ?_
            exact jret _ _ _ (Or.inr (Or.inr rfl)) (by omega) d_Share_hasCell_31
  ·
    refine z_if_eq (tgt := 30) jx jb d_Share_hasCell_4 (by decide) ⟨by decide, by decide⟩ (fun hc4 => ?_) (fun hc4 => ?_)
    ·
      refine lv_iconst (v := iZ 0) jx jb d_Share_hasCell_30 rfl ?_
      exact jret _ _ _ (Or.inr (Or.inl rfl)) (by omega) d_Share_hasCell_31
    ·
      exact absurd hc4 (by decide)
abbrev rm_Share_pointsOf : Room := { frames := 1, cells := 0, slots := 0, locals := 20 }
set_option maxHeartbeats 4000000 in
set_option maxRecDepth 100000 in
theorem c_Share_pointsOf (l : Launch) (D : va_G) (cI cB cZ : ClassId) (h : Nat) (pP : Nat) (pS : Nat) (pB : Nat) (pA : Nat) (pC : Nat) (pF : Nat) (pN : Nat) (o : Nat) (gP : Nat → Int) (x : Int) (hx1 : 0 ≤ x ∧ x < 256) : Met l y_Share_pointsOf (.code y_Share_pointsOf b_Share_pointsOf 2 (some .int) :: zT) rm_Share_pointsOf (zRc D classes (TY cI cB cZ) [(h, .inr (1, [.ref pP, .ref pS, .ref pB, .ref pA, .ref pC, .ref pF, .ref pN, .int (iZ (o : Int))])), (pP, .inl (cI, 256, .inl (zA gP)))] [.ref h, .int (iZ x)]) (zSi (fun z => z = gP x.toNat)) 0 0 (fun _ => False) := by
  refine z_ofr (by decide) (Nat.le_of_ble_eq_true rfl) (Or.inl rfl) ?_
  intro p e s m args below meth c Q E jP jK jret ls jl
  obtain ⟨jx, jb, jrt, jml, jown, jts, jlk⟩ := E
  have jown : s.vm.findClass R_Share = some m.cls := jown
  have jl : lv_has ls 2 [(0, .ref h), (1, .int (iZ x))] := jl
  refine lv_iload_n jx jb d_Share_pointsOf_0 rfl (lv_at jl 1 rfl) ?_
  refine z_backr (va_runSN (As := [.int (iZ x)]) (rest := []) ⟨jx, jb, jml, jown, jts⟩ (c_isSymbol l D cI cB cZ x (by first | assumption | omega)) (zc_SN 1 jts cd_SC_isSymbol (jK.nest ln_Share_45 rfl) st_SC_isSymbol in_SC hd_SC_isSymbol ⟨Nat.le_of_ble_eq_true rfl, Nat.le_of_ble_eq_true rfl⟩ rfl rfl) (z_preSR jK jP [] rfl) rfl rfl jl.1 rfl (lv_room (Nat.le_of_ble_eq_true rfl)) d_Share_pointsOf_1 ⟨Nat.le_of_ble_eq_true rfl, Nat.le_of_ble_eq_true rfl⟩) (fun z1 hz1 => ?_)
  rcases hz1 with ⟨rfl, hq1⟩ | ⟨rfl, hq1⟩
  ·
    refine z_if_eq (tgt := 16) jx jb d_Share_pointsOf_4 (by decide) ⟨by decide, by decide⟩ (fun hc4 => ?_) (fun hc4 => ?_)
    ·
      exact absurd hc4 (by decide)
    ·
      refine lv_aload_n jx jb d_Share_pointsOf_7 rfl (lv_at jl 0 rfl) ?_
      refine va_get (D := D) (ci := 1) (v := .ref pP) (C := R_Share) (T := F_Share) (N := 8) jx jb jts i_Share jown jK.1 jP 0 rfl rfl 0 (by decide) (jts _ fl_Share_9) (fun _ h9 => h9) rfl d_Share_pointsOf_8 ?_
      refine lv_iload_n jx jb d_Share_pointsOf_11 rfl (lv_at jl 1 rfl) ?_
      refine z_iald jx jb jK.1 jP 1 0 rfl rfl x.toNat (by omega) d_Share_pointsOf_12 ?_
      refine lv_goto (tgt := 17) jx jb d_Share_pointsOf_13 (by decide) ?_
      exact jret _ _ _ (Or.inl rfl) (rfl) d_Share_pointsOf_17
  ·
    exfalso; omega
abbrev rm_Share_weightOf : Room := { frames := 2, cells := 0, slots := 0, locals := 41 }
set_option maxHeartbeats 4000000 in
set_option maxRecDepth 100000 in
theorem c_Share_weightOf (l : Launch) (D : va_G) (cI cB cZ : ClassId) (h : Nat) (pP : Nat) (pS : Nat) (pB : Nat) (pA : Nat) (pC : Nat) (pF : Nat) (pN : Nat) (o : Nat) (gP : Nat → Int) (x : Int) (hx1 : 0 ≤ x ∧ x < 256) (hpr : ∀ k, k < 256 → -1 ≤ gP k ∧ gP k ≤ 65536) : Met l y_Share_weightOf (.code y_Share_weightOf b_Share_weightOf 2 (some .int) :: zT) rm_Share_weightOf (zRc D classes (TY cI cB cZ) [(h, .inr (1, [.ref pP, .ref pS, .ref pB, .ref pA, .ref pC, .ref pF, .ref pN, .int (iZ (o : Int))])), (pP, .inl (cI, 256, .inl (zA gP)))] [.ref h, .int (iZ x)]) (zSi (fun z => z = wgt (gP x.toNat))) 0 0 (fun _ => False) := by
  refine z_ofr (by decide) (Nat.le_of_ble_eq_true rfl) (Or.inl rfl) ?_
  intro p e s m args below meth c Q E jP jK jret ls jl
  obtain ⟨jx, jb, jrt, jml, jown, jts, jlk⟩ := E
  have jown : s.vm.findClass R_Share = some m.cls := jown
  have hpx := hpr x.toNat (by omega)
  have jl : lv_has ls 2 [(0, .ref h), (1, .int (iZ x))] := jl
  refine lv_aload_n jx jb d_Share_weightOf_0 rfl (lv_at jl 0 rfl) ?_
  refine lv_iload_n jx jb d_Share_weightOf_1 rfl (lv_at jl 1 rfl) ?_
  refine z_backe (va_runV (As := [.int (iZ x)]) (rest := []) ⟨jx, jb, jml, jown, jts⟩ (c_Share_pointsOf l D cI cB cZ h pP pS pB pA pC pF pN o gP x (by first | assumption | omega)) (zc_V 1 jts cd_Share_pointsOf lk_Share_49 im_Share_pointsOf se_Share_pointsOf in_Share hd_Share_pointsOf ⟨Nat.le_of_ble_eq_true rfl, Nat.le_of_ble_eq_true rfl⟩ rfl rfl) (z_preVR jK jP [0, 1] rfl rfl rfl) rfl rfl jl.1 rfl (lv_room (Nat.le_of_ble_eq_true rfl)) d_Share_weightOf_2 ⟨Nat.le_of_ble_eq_true rfl, Nat.le_of_ble_eq_true rfl⟩) ?_
  refine z_backe (va_runSN (As := [.int (iZ (gP x.toNat))]) (rest := []) ⟨jx, jb, jml, jown, jts⟩ (c_weight l D cI cB cZ (gP x.toNat) (by first | assumption | omega)) (zc_SN 1 jts cd_SC_weight (jK.nest ln_Share_53 rfl) st_SC_weight in_SC hd_SC_weight ⟨Nat.le_of_ble_eq_true rfl, Nat.le_of_ble_eq_true rfl⟩ rfl rfl) (z_preSR jK jP [] rfl) rfl rfl jl.1 rfl (lv_room (Nat.le_of_ble_eq_true rfl)) d_Share_weightOf_5 ⟨Nat.le_of_ble_eq_true rfl, Nat.le_of_ble_eq_true rfl⟩) ?_
  exact jret _ _ _ (Or.inl rfl) (rfl) d_Share_weightOf_8
abbrev rm_Share_lastSymbol : Room := { frames := 0, cells := 0, slots := 0, locals := 0 }
set_option maxHeartbeats 4000000 in
set_option maxRecDepth 100000 in
theorem c_Share_lastSymbol (l : Launch) (D : va_G) (cI cB cZ : ClassId) (h : Nat) (pP : Nat) (pS : Nat) (pB : Nat) (pA : Nat) (pC : Nat) (pF : Nat) (pN : Nat) (o : Nat) (gP : Nat → Int) (hpr : ∀ k, k < 256 → -1 ≤ gP k ∧ gP k ≤ 65536) : Met l y_Share_lastSymbol (.code y_Share_lastSymbol b_Share_lastSymbol 2 (some .int) :: zT) rm_Share_lastSymbol (zRc D classes (TY cI cB cZ) [(h, .inr (1, [.ref pP, .ref pS, .ref pB, .ref pA, .ref pC, .ref pF, .ref pN, .int (iZ (o : Int))])), (pP, .inl (cI, 256, .inl (zA gP)))] [.ref h]) (zSi (fun z => ∃ n : Nat, z = (n : Int) ∧ n ≤ 255 ∧ (n = 0 ∨ gP n ≠ 0) ∧ ∀ k, n < k → k ≤ 255 → gP k = 0)) 0 0 (fun _ => False) := by
  refine z_ofr (by decide) (Nat.le_of_ble_eq_true rfl) (Or.inl rfl) ?_
  intro p e s m args below meth c Q E jP jK jret ls jl
  obtain ⟨jx, jb, jrt, jml, jown, jts, jlk⟩ := E
  have jown : s.vm.findClass R_Share = some m.cls := jown
  have jl : lv_has ls 2 [(0, .ref h)] := jl
  refine lv_sipush (v := iZ 255) jx jb d_Share_lastSymbol_0 (by decide) ?_
  refine lv_istore_n (lv' := [(1, .int (iZ 255)), (0, .ref h)]) jx jb d_Share_lastSymbol_3 rfl jl (by decide) rfl (fun ls jl => ?_)
  have hloop4 : ∀ (nF : Nat) (n1 : Nat), n1 < nF → (n1 ≤ 255) → (∀ k, n1 < k → k ≤ 255 → gP k = 0) → ∀ ls : Array Slot, lv_has ls 2 [(0, .ref h), (1, .int (iZ (n1 : Int)))] → W p l e rm_Share_lastSymbol s m args below meth c s.heap [] 0 0 Q (F0 m 4 ls []) := by
    intro nF
    induction nF with
    | zero => intro n1 hm; exact absurd hm (Nat.not_lt_zero _)
    | succ nF ih4 =>
      intro n1 hm h1 h2 ls jl
      refine lv_iload_n jx jb d_Share_lastSymbol_4 rfl (lv_at jl 1 rfl) ?_
      refine z_if_le (tgt := 23) jx jb d_Share_lastSymbol_5 (by decide) ⟨by omega, by omega⟩ (fun hc5 => ?_) (fun hc5 => ?_)
      ·
        refine lv_iload_n jx jb d_Share_lastSymbol_23 rfl (lv_at jl 1 rfl) ?_
        exact jret _ _ _ (Or.inl rfl) (⟨n1, rfl, h1, by omega, h2⟩) d_Share_lastSymbol_24
      ·
        refine lv_aload_n jx jb d_Share_lastSymbol_8 rfl (lv_at jl 0 rfl) ?_
        refine va_get (D := D) (ci := 1) (v := .ref pP) (C := R_Share) (T := F_Share) (N := 8) jx jb jts i_Share jown jK.1 jP 0 rfl rfl 0 (by decide) (jts _ fl_Share_9) (fun _ h9 => h9) rfl d_Share_lastSymbol_9 ?_
        refine lv_iload_n jx jb d_Share_lastSymbol_12 rfl (lv_at jl 1 rfl) ?_
        refine z_iald jx jb jK.1 jP 1 0 rfl rfl n1 (by omega) d_Share_lastSymbol_13 ?_
        have hpn := hpr n1 (by omega)
        refine z_if_ne (tgt := 23) jx jb d_Share_lastSymbol_14 (by decide) ⟨by omega, by omega⟩ (fun hc14 => ?_) (fun hc14 => ?_)
        ·
          refine lv_iload_n jx jb d_Share_lastSymbol_23 rfl (lv_at jl 1 rfl) ?_
          exact jret _ _ _ (Or.inl rfl) (⟨n1, rfl, h1, by omega, h2⟩) d_Share_lastSymbol_24
        ·
          refine lv_iinc (v := iZ ((n1 - 1 : Nat) : Int)) (lv' := [(1, .int (iZ ((n1 - 1 : Nat) : Int))), (0, .ref h)]) jx jb d_Share_lastSymbol_17 jl (k := 1) rfl (by rw [show ((n1 - 1 : Nat) : Int) = (n1 : Int) + (-1) from by omega]; exact iZ_add _ _) (by decide) rfl (fun ls jl => ?_)
          refine lv_goto (tgt := 4) jx jb d_Share_lastSymbol_20 (by decide) ?_
          exact ih4 (n1 - 1) (by omega) (by first | assumption | omega) (ls_next h2 hc14) _ (lv_sub jl [1, 0] rfl)
  exact hloop4 (255 + 1) 255 (Nat.lt_succ_self _) (by first | assumption | omega) (fun k a b => absurd a (by omega)) _ (lv_sub jl [1, 0] rfl)
abbrev rm_Share_symbolOf : Room := { frames := 2, cells := 0, slots := 0, locals := 41 }
set_option maxHeartbeats 4000000 in
set_option maxRecDepth 100000 in
theorem c_Share_symbolOf (l : Launch) (D : va_G) (cI cB cZ : ClassId) (h : Nat) (pP : Nat) (pS : Nat) (pB : Nat) (pA : Nat) (pC : Nat) (pF : Nat) (pN : Nat) (o : Nat) (gS : Nat → Int) (k : Int) (ho : o ≤ 12) (ho0 : 0 < o) (hk : 0 ≤ k ∧ k < 2 ^ o) : Met l y_Share_symbolOf (.code y_Share_symbolOf b_Share_symbolOf 2 (some .int) :: zT) rm_Share_symbolOf (zRc D classes (TY cI cB cZ) [(h, .inr (1, [.ref pP, .ref pS, .ref pB, .ref pA, .ref pC, .ref pF, .ref pN, .int (iZ (o : Int))])), (pS, .inl (cI, 4096, .inl (zA gS)))] [.ref h, .int (iZ k)]) (zSi (fun z => z = gS k.toNat)) 0 0 (fun _ => False) := by
  refine z_ofr (by decide) (Nat.le_of_ble_eq_true rfl) (Or.inl rfl) ?_
  intro p e s m args below meth c Q E jP jK jret ls jl
  obtain ⟨jx, jb, jrt, jml, jown, jts, jlk⟩ := E
  have jown : s.vm.findClass R_Share = some m.cls := jown
  have hp12 := p2_le ho
  have jl : lv_has ls 2 [(0, .ref h), (1, .int (iZ k))] := jl
  refine lv_aload_n jx jb d_Share_symbolOf_0 rfl (lv_at jl 0 rfl) ?_
  refine lv_iload_n jx jb d_Share_symbolOf_1 rfl (lv_at jl 1 rfl) ?_
  refine z_backr (va_runV (As := [.int (iZ k)]) (rest := []) ⟨jx, jb, jml, jown, jts⟩ (c_Share_hasCell l D cI cB cZ h pP pS pB pA pC pF pN o k (by first | assumption | omega) (by first | assumption | omega)) (zc_V 1 jts cd_Share_hasCell lk_Share_56 im_Share_hasCell se_Share_hasCell in_Share hd_Share_hasCell ⟨Nat.le_of_ble_eq_true rfl, Nat.le_of_ble_eq_true rfl⟩ rfl rfl) (z_preVR jK jP [0] rfl rfl rfl) rfl rfl jl.1 rfl (lv_room (Nat.le_of_ble_eq_true rfl)) d_Share_symbolOf_2 ⟨Nat.le_of_ble_eq_true rfl, Nat.le_of_ble_eq_true rfl⟩) (fun z2 hz2 => ?_)
  rcases hz2 with ⟨rfl, hq2⟩ | ⟨rfl, hq2⟩
  ·
    refine z_if_eq (tgt := 17) jx jb d_Share_symbolOf_5 (by decide) ⟨by decide, by decide⟩ (fun hc5 => ?_) (fun hc5 => ?_)
    ·
      exact absurd hc5 (by decide)
    ·
      refine lv_aload_n jx jb d_Share_symbolOf_8 rfl (lv_at jl 0 rfl) ?_
      refine va_get (D := D) (ci := 1) (v := .ref pS) (C := R_Share) (T := F_Share) (N := 8) jx jb jts i_Share jown jK.1 jP 0 rfl rfl 1 (by decide) (jts _ fl_Share_15) (fun _ h9 => h9) rfl d_Share_symbolOf_9 ?_
      refine lv_iload_n jx jb d_Share_symbolOf_12 rfl (lv_at jl 1 rfl) ?_
      refine z_iald jx jb jK.1 jP 1 0 rfl rfl k.toNat (by omega) d_Share_symbolOf_13 ?_
      refine lv_goto (tgt := 18) jx jb d_Share_symbolOf_14 (by decide) ?_
      exact jret _ _ _ (Or.inl rfl) (rfl) d_Share_symbolOf_18
  ·
    exfalso; omega
abbrev rm_Share_bitsOf : Room := { frames := 2, cells := 0, slots := 0, locals := 41 }
set_option maxHeartbeats 4000000 in
set_option maxRecDepth 100000 in
theorem c_Share_bitsOf (l : Launch) (D : va_G) (cI cB cZ : ClassId) (h : Nat) (pP : Nat) (pS : Nat) (pB : Nat) (pA : Nat) (pC : Nat) (pF : Nat) (pN : Nat) (o : Nat) (gB : Nat → Int) (k : Int) (ho : o ≤ 12) (ho0 : 0 < o) (hk : 0 ≤ k ∧ k < 2 ^ o) : Met l y_Share_bitsOf (.code y_Share_bitsOf b_Share_bitsOf 2 (some .int) :: zT) rm_Share_bitsOf (zRc D classes (TY cI cB cZ) [(h, .inr (1, [.ref pP, .ref pS, .ref pB, .ref pA, .ref pC, .ref pF, .ref pN, .int (iZ (o : Int))])), (pB, .inl (cI, 4096, .inl (zA gB)))] [.ref h, .int (iZ k)]) (zSi (fun z => z = gB k.toNat)) 0 0 (fun _ => False) := by
  refine z_ofr (by decide) (Nat.le_of_ble_eq_true rfl) (Or.inl rfl) ?_
  intro p e s m args below meth c Q E jP jK jret ls jl
  obtain ⟨jx, jb, jrt, jml, jown, jts, jlk⟩ := E
  have jown : s.vm.findClass R_Share = some m.cls := jown
  have hp12 := p2_le ho
  have jl : lv_has ls 2 [(0, .ref h), (1, .int (iZ k))] := jl
  refine lv_aload_n jx jb d_Share_bitsOf_0 rfl (lv_at jl 0 rfl) ?_
  refine lv_iload_n jx jb d_Share_bitsOf_1 rfl (lv_at jl 1 rfl) ?_
  refine z_backr (va_runV (As := [.int (iZ k)]) (rest := []) ⟨jx, jb, jml, jown, jts⟩ (c_Share_hasCell l D cI cB cZ h pP pS pB pA pC pF pN o k (by first | assumption | omega) (by first | assumption | omega)) (zc_V 1 jts cd_Share_hasCell lk_Share_56 im_Share_hasCell se_Share_hasCell in_Share hd_Share_hasCell ⟨Nat.le_of_ble_eq_true rfl, Nat.le_of_ble_eq_true rfl⟩ rfl rfl) (z_preVR jK jP [0] rfl rfl rfl) rfl rfl jl.1 rfl (lv_room (Nat.le_of_ble_eq_true rfl)) d_Share_bitsOf_2 ⟨Nat.le_of_ble_eq_true rfl, Nat.le_of_ble_eq_true rfl⟩) (fun z2 hz2 => ?_)
  rcases hz2 with ⟨rfl, hq2⟩ | ⟨rfl, hq2⟩
  ·
    refine z_if_eq (tgt := 17) jx jb d_Share_bitsOf_5 (by decide) ⟨by decide, by decide⟩ (fun hc5 => ?_) (fun hc5 => ?_)
    ·
      exact absurd hc5 (by decide)
    ·
      refine lv_aload_n jx jb d_Share_bitsOf_8 rfl (lv_at jl 0 rfl) ?_
      refine va_get (D := D) (ci := 1) (v := .ref pB) (C := R_Share) (T := F_Share) (N := 8) jx jb jts i_Share jown jK.1 jP 0 rfl rfl 2 (by decide) (jts _ fl_Share_18) (fun _ h9 => h9) rfl d_Share_bitsOf_9 ?_
      refine lv_iload_n jx jb d_Share_bitsOf_12 rfl (lv_at jl 1 rfl) ?_
      refine z_iald jx jb jK.1 jP 1 0 rfl rfl k.toNat (by omega) d_Share_bitsOf_13 ?_
      refine lv_goto (tgt := 18) jx jb d_Share_bitsOf_14 (by decide) ?_
      exact jret _ _ _ (Or.inl rfl) (rfl) d_Share_bitsOf_18
  ·
    exfalso; omega
abbrev rm_Share_baseOf : Room := { frames := 2, cells := 0, slots := 0, locals := 41 }
set_option maxHeartbeats 4000000 in
set_option maxRecDepth 100000 in
theorem c_Share_baseOf (l : Launch) (D : va_G) (cI cB cZ : ClassId) (h : Nat) (pP : Nat) (pS : Nat) (pB : Nat) (pA : Nat) (pC : Nat) (pF : Nat) (pN : Nat) (o : Nat) (gA : Nat → Int) (k : Int) (ho : o ≤ 12) (ho0 : 0 < o) (hk : 0 ≤ k ∧ k < 2 ^ o) : Met l y_Share_baseOf (.code y_Share_baseOf b_Share_baseOf 2 (some .int) :: zT) rm_Share_baseOf (zRc D classes (TY cI cB cZ) [(h, .inr (1, [.ref pP, .ref pS, .ref pB, .ref pA, .ref pC, .ref pF, .ref pN, .int (iZ (o : Int))])), (pA, .inl (cI, 4096, .inl (zA gA)))] [.ref h, .int (iZ k)]) (zSi (fun z => z = gA k.toNat)) 0 0 (fun _ => False) := by
  refine z_ofr (by decide) (Nat.le_of_ble_eq_true rfl) (Or.inl rfl) ?_
  intro p e s m args below meth c Q E jP jK jret ls jl
  obtain ⟨jx, jb, jrt, jml, jown, jts, jlk⟩ := E
  have jown : s.vm.findClass R_Share = some m.cls := jown
  have hp12 := p2_le ho
  have jl : lv_has ls 2 [(0, .ref h), (1, .int (iZ k))] := jl
  refine lv_aload_n jx jb d_Share_baseOf_0 rfl (lv_at jl 0 rfl) ?_
  refine lv_iload_n jx jb d_Share_baseOf_1 rfl (lv_at jl 1 rfl) ?_
  refine z_backr (va_runV (As := [.int (iZ k)]) (rest := []) ⟨jx, jb, jml, jown, jts⟩ (c_Share_hasCell l D cI cB cZ h pP pS pB pA pC pF pN o k (by first | assumption | omega) (by first | assumption | omega)) (zc_V 1 jts cd_Share_hasCell lk_Share_56 im_Share_hasCell se_Share_hasCell in_Share hd_Share_hasCell ⟨Nat.le_of_ble_eq_true rfl, Nat.le_of_ble_eq_true rfl⟩ rfl rfl) (z_preVR jK jP [0] rfl rfl rfl) rfl rfl jl.1 rfl (lv_room (Nat.le_of_ble_eq_true rfl)) d_Share_baseOf_2 ⟨Nat.le_of_ble_eq_true rfl, Nat.le_of_ble_eq_true rfl⟩) (fun z2 hz2 => ?_)
  rcases hz2 with ⟨rfl, hq2⟩ | ⟨rfl, hq2⟩
  ·
    refine z_if_eq (tgt := 17) jx jb d_Share_baseOf_5 (by decide) ⟨by decide, by decide⟩ (fun hc5 => ?_) (fun hc5 => ?_)
    ·
      exact absurd hc5 (by decide)
    ·
      refine lv_aload_n jx jb d_Share_baseOf_8 rfl (lv_at jl 0 rfl) ?_
      refine va_get (D := D) (ci := 1) (v := .ref pA) (C := R_Share) (T := F_Share) (N := 8) jx jb jts i_Share jown jK.1 jP 0 rfl rfl 3 (by decide) (jts _ fl_Share_21) (fun _ h9 => h9) rfl d_Share_baseOf_9 ?_
      refine lv_iload_n jx jb d_Share_baseOf_12 rfl (lv_at jl 1 rfl) ?_
      refine z_iald jx jb jK.1 jP 1 0 rfl rfl k.toNat (by omega) d_Share_baseOf_13 ?_
      refine lv_goto (tgt := 18) jx jb d_Share_baseOf_14 (by decide) ?_
      exact jret _ _ _ (Or.inl rfl) (rfl) d_Share_baseOf_18
  ·
    exfalso; omega
abbrev rm_Share_slotOf : Room := { frames := 3, cells := 0, slots := 0, locals := 62 }
set_option maxHeartbeats 4000000 in
set_option maxRecDepth 100000 in
theorem c_Share_slotOf (l : Launch) (D : va_G) (cI cB cZ : ClassId) (h : Nat) (pP : Nat) (pS : Nat) (pB : Nat) (pA : Nat) (pC : Nat) (pF : Nat) (pN : Nat) (o : Nat) (gP : Nat → Int) (gF : Nat → Int) (x : Int) (y : Int) (hx1 : 0 ≤ x ∧ x < 256) (hpr : ∀ k, k < 256 → -1 ≤ gP k ∧ gP k ≤ 65536) : Met l y_Share_slotOf (.code y_Share_slotOf b_Share_slotOf 3 (some .int) :: zT) rm_Share_slotOf (zRc D classes (TY cI cB cZ) [(h, .inr (1, [.ref pP, .ref pS, .ref pB, .ref pA, .ref pC, .ref pF, .ref pN, .int (iZ (o : Int))])), (pP, .inl (cI, 256, .inl (zA gP))), (pF, .inl (cI, 256, .inl (zA gF)))] [.ref h, .int (iZ x), .int (iZ y)]) (zSi (fun z => z = gF x.toNat + y - wgt (gP x.toNat))) 0 0 (fun _ => False) := by
  refine z_ofr (by decide) (Nat.le_of_ble_eq_true rfl) (Or.inl rfl) ?_
  intro p e s m args below meth c Q E jP jK jret ls jl
  obtain ⟨jx, jb, jrt, jml, jown, jts, jlk⟩ := E
  have jown : s.vm.findClass R_Share = some m.cls := jown
  have jl : lv_has ls 3 [(0, .ref h), (1, .int (iZ x)), (2, .int (iZ y))] := jl
  refine lv_iload_n jx jb d_Share_slotOf_0 rfl (lv_at jl 1 rfl) ?_
  refine z_backr (va_runSN (As := [.int (iZ x)]) (rest := []) ⟨jx, jb, jml, jown, jts⟩ (c_isSymbol l D cI cB cZ x (by first | assumption | omega)) (zc_SN 1 jts cd_SC_isSymbol (jK.nest ln_Share_45 rfl) st_SC_isSymbol in_SC hd_SC_isSymbol ⟨Nat.le_of_ble_eq_true rfl, Nat.le_of_ble_eq_true rfl⟩ rfl rfl) (z_preSR jK jP [] rfl) rfl rfl jl.1 rfl (lv_room (Nat.le_of_ble_eq_true rfl)) d_Share_slotOf_1 ⟨Nat.le_of_ble_eq_true rfl, Nat.le_of_ble_eq_true rfl⟩) (fun z1 hz1 => ?_)
  rcases hz1 with ⟨rfl, hq1⟩ | ⟨rfl, hq1⟩
  ·
    refine z_if_eq (tgt := 24) jx jb d_Share_slotOf_4 (by decide) ⟨by decide, by decide⟩ (fun hc4 => ?_) (fun hc4 => ?_)
    ·
      exact absurd hc4 (by decide)
    ·
      refine lv_aload_n jx jb d_Share_slotOf_7 rfl (lv_at jl 0 rfl) ?_
      refine va_get (D := D) (ci := 1) (v := .ref pF) (C := R_Share) (T := F_Share) (N := 8) jx jb jts i_Share jown jK.1 jP 0 rfl rfl 5 (by decide) (jts _ fl_Share_27) (fun _ h9 => h9) rfl d_Share_slotOf_8 ?_
      refine lv_iload_n jx jb d_Share_slotOf_11 rfl (lv_at jl 1 rfl) ?_
      refine z_iald jx jb jK.1 jP 2 0 rfl rfl x.toNat (by omega) d_Share_slotOf_12 ?_
      refine lv_iload_n jx jb d_Share_slotOf_13 rfl (lv_at jl 2 rfl) ?_
      refine z_iadd jx jb d_Share_slotOf_14 ?_
      refine lv_aload_n jx jb d_Share_slotOf_15 rfl (lv_at jl 0 rfl) ?_
      refine lv_iload_n jx jb d_Share_slotOf_16 rfl (lv_at jl 1 rfl) ?_
      refine z_backe (va_runV (As := [.int (iZ x)]) (rest := [.int (iZ ((gF x.toNat) + y))]) ⟨jx, jb, jml, jown, jts⟩ (c_Share_weightOf l D cI cB cZ h pP pS pB pA pC pF pN o gP x (by first | assumption | omega) (by first | assumption | omega)) (zc_V 1 jts cd_Share_weightOf lk_Share_76 im_Share_weightOf se_Share_weightOf in_Share hd_Share_weightOf ⟨Nat.le_of_ble_eq_true rfl, Nat.le_of_ble_eq_true rfl⟩ rfl rfl) (z_preVR jK jP [0, 1] rfl rfl rfl) rfl rfl jl.1 rfl (lv_room (Nat.le_of_ble_eq_true rfl)) d_Share_slotOf_17 ⟨Nat.le_of_ble_eq_true rfl, Nat.le_of_ble_eq_true rfl⟩) ?_
      refine z_isub jx jb d_Share_slotOf_20 ?_
      refine lv_goto (tgt := 25) jx jb d_Share_slotOf_21 (by decide) ?_
      exact jret _ _ _ (Or.inl rfl) (rfl) d_Share_slotOf_25
  ·
    exfalso; omega
abbrev rm_Share_cellOf : Room := { frames := 4, cells := 0, slots := 0, locals := 84 }
set_option maxHeartbeats 4000000 in
set_option maxRecDepth 100000 in
theorem c_Share_cellOf (l : Launch) (D : va_G) (cI cB cZ : ClassId) (h : Nat) (pP : Nat) (pS : Nat) (pB : Nat) (pA : Nat) (pC : Nat) (pF : Nat) (pN : Nat) (o : Nat) (gP : Nat → Int) (gF : Nat → Int) (gC : Nat → Int) (x : Int) (y : Int) (ho : o ≤ 12) (ho0 : 0 < o) (hx1 : 0 ≤ x ∧ x < 256) (hpr : ∀ k, k < 256 → -1 ≤ gP k ∧ gP k ≤ 65536) (hs : 0 ≤ gF x.toNat + y - wgt (gP x.toNat) ∧ gF x.toNat + y - wgt (gP x.toNat) < 2 ^ o) : Met l y_Share_cellOf (.code y_Share_cellOf b_Share_cellOf 4 (some .int) :: zT) rm_Share_cellOf (zRc D classes (TY cI cB cZ) [(h, .inr (1, [.ref pP, .ref pS, .ref pB, .ref pA, .ref pC, .ref pF, .ref pN, .int (iZ (o : Int))])), (pP, .inl (cI, 256, .inl (zA gP))), (pF, .inl (cI, 256, .inl (zA gF))), (pC, .inl (cI, 4096, .inl (zA gC)))] [.ref h, .int (iZ x), .int (iZ y)]) (zSi (fun z => z = gC (gF x.toNat + y - wgt (gP x.toNat)).toNat)) 0 0 (fun _ => False) := by
  refine z_ofr (by decide) (Nat.le_of_ble_eq_true rfl) (Or.inl rfl) ?_
  intro p e s m args below meth c Q E jP jK jret ls jl
  obtain ⟨jx, jb, jrt, jml, jown, jts, jlk⟩ := E
  have jown : s.vm.findClass R_Share = some m.cls := jown
  have hp12 := p2_le ho
  have jl : lv_has ls 4 [(0, .ref h), (1, .int (iZ x)), (2, .int (iZ y))] := jl
  refine lv_aload_n jx jb d_Share_cellOf_0 rfl (lv_at jl 0 rfl) ?_
  refine lv_iload_n jx jb d_Share_cellOf_1 rfl (lv_at jl 1 rfl) ?_
  refine lv_iload_n jx jb d_Share_cellOf_2 rfl (lv_at jl 2 rfl) ?_
  refine z_backe (va_runV (As := [.int (iZ x), .int (iZ y)]) (rest := []) ⟨jx, jb, jml, jown, jts⟩ (c_Share_slotOf l D cI cB cZ h pP pS pB pA pC pF pN o gP gF x y (by first | assumption | omega) (by first | assumption | omega)) (zc_V 2 jts cd_Share_slotOf lk_Share_59 im_Share_slotOf se_Share_slotOf in_Share hd_Share_slotOf ⟨Nat.le_of_ble_eq_true rfl, Nat.le_of_ble_eq_true rfl⟩ rfl rfl) (z_preVR jK jP [0, 1, 2] rfl rfl rfl) rfl rfl jl.1 rfl (lv_room (Nat.le_of_ble_eq_true rfl)) d_Share_cellOf_3 ⟨Nat.le_of_ble_eq_true rfl, Nat.le_of_ble_eq_true rfl⟩) ?_
  refine lv_istore_n (lv' := [(3, .int (iZ (gF x.toNat + y - wgt (gP x.toNat)))), (0, .ref h), (1, .int (iZ x)), (2, .int (iZ y))]) jx jb d_Share_cellOf_6 rfl jl (by decide) rfl (fun ls jl => ?_)
  refine lv_aload_n jx jb d_Share_cellOf_7 rfl (lv_at jl 1 rfl) ?_
  refine lv_iload_n jx jb d_Share_cellOf_8 rfl (lv_at jl 0 rfl) ?_
  refine z_backr (va_runV (As := [.int (iZ (gF x.toNat + y - wgt (gP x.toNat)))]) (rest := []) ⟨jx, jb, jml, jown, jts⟩ (c_Share_hasCell l D cI cB cZ h pP pS pB pA pC pF pN o (gF x.toNat + y - wgt (gP x.toNat)) (by first | assumption | omega) (by first | assumption | omega)) (zc_V 1 jts cd_Share_hasCell lk_Share_56 im_Share_hasCell se_Share_hasCell in_Share hd_Share_hasCell ⟨Nat.le_of_ble_eq_true rfl, Nat.le_of_ble_eq_true rfl⟩ rfl rfl) (z_preVR jK jP [0] rfl rfl rfl) rfl rfl jl.1 rfl (lv_room (Nat.le_of_ble_eq_true rfl)) d_Share_cellOf_9 ⟨Nat.le_of_ble_eq_true rfl, Nat.le_of_ble_eq_true rfl⟩) (fun z9 hz9 => ?_)
  rcases hz9 with ⟨rfl, hq9⟩ | ⟨rfl, hq9⟩
  ·
    refine z_if_eq (tgt := 24) jx jb d_Share_cellOf_12 (by decide) ⟨by decide, by decide⟩ (fun hc12 => ?_) (fun hc12 => ?_)
    ·
      exact absurd hc12 (by decide)
    ·
      refine lv_aload_n jx jb d_Share_cellOf_15 rfl (lv_at jl 1 rfl) ?_
      refine va_get (D := D) (ci := 1) (v := .ref pC) (C := R_Share) (T := F_Share) (N := 8) jx jb jts i_Share jown jK.1 jP 0 rfl rfl 4 (by decide) (jts _ fl_Share_24) (fun _ h9 => h9) rfl d_Share_cellOf_16 ?_
      refine lv_iload_n jx jb d_Share_cellOf_19 rfl (lv_at jl 0 rfl) ?_
      refine z_iald jx jb jK.1 jP 3 0 rfl rfl ((gF x.toNat + y - wgt (gP x.toNat)).toNat) (by omega) d_Share_cellOf_20 ?_
      refine lv_goto (tgt := 25) jx jb d_Share_cellOf_21 (by decide) ?_
      exact jret _ _ _ (Or.inl rfl) (rfl) d_Share_cellOf_25
  ·
    exfalso; omega
abbrev rm_Share_init : Room := { frames := 1, cells := 7, slots := 17152, locals := 24 }
set_option maxHeartbeats 4000000 in
set_option maxRecDepth 100000 in
theorem c_Share_init (l : Launch) (D : va_G) (cI cB cZ : ClassId) (sz : Nat) (h : Nat) : Met l y_Share_init (.code y_Share_init b_Share_init 1 none :: zT) rm_Share_init (zPc D classes (TY cI cB cZ) [(h, .inr (1, [.null, .null, .null, .null, .null, .null, .null, .int (iZ 0)]))] sz [.ref h]) (zFv (S := Nat × Nat × Nat × Nat × Nat × Nat × Nat) D classes (fun u => True) (fun u => [(h, .inr (1, [.ref u.1, .ref u.2.1, .ref u.2.2.1, .ref u.2.2.2.1, .ref u.2.2.2.2.1, .ref u.2.2.2.2.2.1, .ref u.2.2.2.2.2.2, .int (iZ 0)])), (u.1, .inl (cI, 256, .inl (zA (fun _ => 0)))), (u.2.1, .inl (cI, 4096, .inl (zA (fun _ => 0)))), (u.2.2.1, .inl (cI, 4096, .inl (zA (fun _ => 0)))), (u.2.2.2.1, .inl (cI, 4096, .inl (zA (fun _ => 0)))), (u.2.2.2.2.1, .inl (cI, 4096, .inl (zA (fun _ => 0)))), (u.2.2.2.2.2.1, .inl (cI, 256, .inl (zA (fun _ => 0)))), (u.2.2.2.2.2.2, .inl (cI, 256, .inl (zA (fun _ => 0))))]) (va_A [(h, .inr (1, [.null, .null, .null, .null, .null, .null, .null, .int (iZ 0)]))] sz)) 7 17152 (va_A [(h, .inr (1, [.null, .null, .null, .null, .null, .null, .null, .int (iZ 0)]))] sz) := by
  refine z_ofv (by decide) (Nat.le_of_ble_eq_true rfl) rfl ?_
  intro p e s m args below meth c A Q E jmn jA jK jret H locs jP jD jS ls jl
  obtain ⟨jx, jb, jrt, jml, jown, jts, jlk⟩ := E
  have jown : s.vm.findClass R_Share = some m.cls := jown
  have jl : lv_has ls 1 [(0, .ref h)] := jl
  refine lv_aload_n jx jb d_Share_init_0 rfl (lv_at jl 0 rfl) ?_
  refine W.objInit jx jb jown (jts _ lk_Share_3) (jts _ im_objectInit) (jts _ cd_objectInit) rfl (by rw [jml]; exact jl.1) rfl d_Share_init_1 (Nat.le_of_ble_eq_true rfl) (Nat.le_of_ble_eq_true rfl) ?_
  refine W.eq (g2 := F0 m 4 ls []) rfl ?_
  refine lv_aload_n jx jb d_Share_init_4 rfl (lv_at jl 0 rfl) ?_
  refine lv_sipush (v := iZ 256) jx jb d_Share_init_5 (by decide) ?_
  refine z_newa jx jb (jts _ ac_int) rfl rfl rfl jK.1 jP jD jS jA 0 rfl 256 ⟨rfl, by decide⟩ (Nat.le_of_ble_eq_true rfl) (Nat.le_of_ble_eq_true rfl) d_Share_init_8 (fun w8 H jP jD jS => ?_)
  have jP : va_P D classes [(h, .inr (1, [.null, .null, .null, .null, .null, .null, .null, .int (iZ 0)])), (w8, .inl (cI, 256, .inl (zA (fun _ => 0))))] H := jP
  have jD : va_D A [(h, .inr (1, [.null, .null, .null, .null, .null, .null, .null, .int (iZ 0)])), (w8, .inl (cI, 256, .inl (zA (fun _ => 0))))] := jD
  refine va_putF (D := D) (ci := 1) (v := .ref w8) (ty := (.array .int)) (C := R_Share) (T := F_Share) (N := 8) jx jb jts i_Share t_Share t_Share_ok n_Share jown jK.1 jP jD jS 0 rfl rfl 0 (by decide) (jts _ fl_Share_9) (fun _ h9 => h9) rfl jmn rfl (by decide +kernel) rfl rfl (Nat.le_of_ble_eq_true rfl) d_Share_init_10 (fun H locs jP jD jS => ?_)
  have jP : va_P D classes [(h, .inr (1, [.ref w8, .null, .null, .null, .null, .null, .null, .int (iZ 0)])), (w8, .inl (cI, 256, .inl (zA (fun _ => 0))))] H := jP
  have jD : va_D A [(h, .inr (1, [.ref w8, .null, .null, .null, .null, .null, .null, .int (iZ 0)])), (w8, .inl (cI, 256, .inl (zA (fun _ => 0))))] := jD
  refine lv_aload_n jx jb d_Share_init_13 rfl (lv_at jl 0 rfl) ?_
  refine lv_sipush (v := iZ 4096) jx jb d_Share_init_14 (by decide) ?_
  refine z_newa jx jb (jts _ ac_int) rfl rfl rfl jK.1 jP jD jS jA 0 rfl 4096 ⟨rfl, by decide⟩ (Nat.le_of_ble_eq_true rfl) (Nat.le_of_ble_eq_true rfl) d_Share_init_17 (fun w17 H jP jD jS => ?_)
  have jP : va_P D classes [(h, .inr (1, [.ref w8, .null, .null, .null, .null, .null, .null, .int (iZ 0)])), (w8, .inl (cI, 256, .inl (zA (fun _ => 0)))), (w17, .inl (cI, 4096, .inl (zA (fun _ => 0))))] H := jP
  have jD : va_D A [(h, .inr (1, [.ref w8, .null, .null, .null, .null, .null, .null, .int (iZ 0)])), (w8, .inl (cI, 256, .inl (zA (fun _ => 0)))), (w17, .inl (cI, 4096, .inl (zA (fun _ => 0))))] := jD
  refine va_putF (D := D) (ci := 1) (v := .ref w17) (ty := (.array .int)) (C := R_Share) (T := F_Share) (N := 8) jx jb jts i_Share t_Share t_Share_ok n_Share jown jK.1 jP jD jS 0 rfl rfl 1 (by decide) (jts _ fl_Share_15) (fun _ h9 => h9) rfl jmn rfl (by decide +kernel) rfl rfl (Nat.le_of_ble_eq_true rfl) d_Share_init_19 (fun H locs jP jD jS => ?_)
  have jP : va_P D classes [(h, .inr (1, [.ref w8, .ref w17, .null, .null, .null, .null, .null, .int (iZ 0)])), (w8, .inl (cI, 256, .inl (zA (fun _ => 0)))), (w17, .inl (cI, 4096, .inl (zA (fun _ => 0))))] H := jP
  have jD : va_D A [(h, .inr (1, [.ref w8, .ref w17, .null, .null, .null, .null, .null, .int (iZ 0)])), (w8, .inl (cI, 256, .inl (zA (fun _ => 0)))), (w17, .inl (cI, 4096, .inl (zA (fun _ => 0))))] := jD
  refine lv_aload_n jx jb d_Share_init_22 rfl (lv_at jl 0 rfl) ?_
  refine lv_sipush (v := iZ 4096) jx jb d_Share_init_23 (by decide) ?_
  refine z_newa jx jb (jts _ ac_int) rfl rfl rfl jK.1 jP jD jS jA 0 rfl 4096 ⟨rfl, by decide⟩ (Nat.le_of_ble_eq_true rfl) (Nat.le_of_ble_eq_true rfl) d_Share_init_26 (fun w26 H jP jD jS => ?_)
  have jP : va_P D classes [(h, .inr (1, [.ref w8, .ref w17, .null, .null, .null, .null, .null, .int (iZ 0)])), (w8, .inl (cI, 256, .inl (zA (fun _ => 0)))), (w17, .inl (cI, 4096, .inl (zA (fun _ => 0)))), (w26, .inl (cI, 4096, .inl (zA (fun _ => 0))))] H := jP
  have jD : va_D A [(h, .inr (1, [.ref w8, .ref w17, .null, .null, .null, .null, .null, .int (iZ 0)])), (w8, .inl (cI, 256, .inl (zA (fun _ => 0)))), (w17, .inl (cI, 4096, .inl (zA (fun _ => 0)))), (w26, .inl (cI, 4096, .inl (zA (fun _ => 0))))] := jD
  refine va_putF (D := D) (ci := 1) (v := .ref w26) (ty := (.array .int)) (C := R_Share) (T := F_Share) (N := 8) jx jb jts i_Share t_Share t_Share_ok n_Share jown jK.1 jP jD jS 0 rfl rfl 2 (by decide) (jts _ fl_Share_18) (fun _ h9 => h9) rfl jmn rfl (by decide +kernel) rfl rfl (Nat.le_of_ble_eq_true rfl) d_Share_init_28 (fun H locs jP jD jS => ?_)
  have jP : va_P D classes [(h, .inr (1, [.ref w8, .ref w17, .ref w26, .null, .null, .null, .null, .int (iZ 0)])), (w8, .inl (cI, 256, .inl (zA (fun _ => 0)))), (w17, .inl (cI, 4096, .inl (zA (fun _ => 0)))), (w26, .inl (cI, 4096, .inl (zA (fun _ => 0))))] H := jP
  have jD : va_D A [(h, .inr (1, [.ref w8, .ref w17, .ref w26, .null, .null, .null, .null, .int (iZ 0)])), (w8, .inl (cI, 256, .inl (zA (fun _ => 0)))), (w17, .inl (cI, 4096, .inl (zA (fun _ => 0)))), (w26, .inl (cI, 4096, .inl (zA (fun _ => 0))))] := jD
  refine lv_aload_n jx jb d_Share_init_31 rfl (lv_at jl 0 rfl) ?_
  refine lv_sipush (v := iZ 4096) jx jb d_Share_init_32 (by decide) ?_
  refine z_newa jx jb (jts _ ac_int) rfl rfl rfl jK.1 jP jD jS jA 0 rfl 4096 ⟨rfl, by decide⟩ (Nat.le_of_ble_eq_true rfl) (Nat.le_of_ble_eq_true rfl) d_Share_init_35 (fun w35 H jP jD jS => ?_)
  have jP : va_P D classes [(h, .inr (1, [.ref w8, .ref w17, .ref w26, .null, .null, .null, .null, .int (iZ 0)])), (w8, .inl (cI, 256, .inl (zA (fun _ => 0)))), (w17, .inl (cI, 4096, .inl (zA (fun _ => 0)))), (w26, .inl (cI, 4096, .inl (zA (fun _ => 0)))), (w35, .inl (cI, 4096, .inl (zA (fun _ => 0))))] H := jP
  have jD : va_D A [(h, .inr (1, [.ref w8, .ref w17, .ref w26, .null, .null, .null, .null, .int (iZ 0)])), (w8, .inl (cI, 256, .inl (zA (fun _ => 0)))), (w17, .inl (cI, 4096, .inl (zA (fun _ => 0)))), (w26, .inl (cI, 4096, .inl (zA (fun _ => 0)))), (w35, .inl (cI, 4096, .inl (zA (fun _ => 0))))] := jD
  refine va_putF (D := D) (ci := 1) (v := .ref w35) (ty := (.array .int)) (C := R_Share) (T := F_Share) (N := 8) jx jb jts i_Share t_Share t_Share_ok n_Share jown jK.1 jP jD jS 0 rfl rfl 3 (by decide) (jts _ fl_Share_21) (fun _ h9 => h9) rfl jmn rfl (by decide +kernel) rfl rfl (Nat.le_of_ble_eq_true rfl) d_Share_init_37 (fun H locs jP jD jS => ?_)
  have jP : va_P D classes [(h, .inr (1, [.ref w8, .ref w17, .ref w26, .ref w35, .null, .null, .null, .int (iZ 0)])), (w8, .inl (cI, 256, .inl (zA (fun _ => 0)))), (w17, .inl (cI, 4096, .inl (zA (fun _ => 0)))), (w26, .inl (cI, 4096, .inl (zA (fun _ => 0)))), (w35, .inl (cI, 4096, .inl (zA (fun _ => 0))))] H := jP
  have jD : va_D A [(h, .inr (1, [.ref w8, .ref w17, .ref w26, .ref w35, .null, .null, .null, .int (iZ 0)])), (w8, .inl (cI, 256, .inl (zA (fun _ => 0)))), (w17, .inl (cI, 4096, .inl (zA (fun _ => 0)))), (w26, .inl (cI, 4096, .inl (zA (fun _ => 0)))), (w35, .inl (cI, 4096, .inl (zA (fun _ => 0))))] := jD
  refine lv_aload_n jx jb d_Share_init_40 rfl (lv_at jl 0 rfl) ?_
  refine lv_sipush (v := iZ 4096) jx jb d_Share_init_41 (by decide) ?_
  refine z_newa jx jb (jts _ ac_int) rfl rfl rfl jK.1 jP jD jS jA 0 rfl 4096 ⟨rfl, by decide⟩ (Nat.le_of_ble_eq_true rfl) (Nat.le_of_ble_eq_true rfl) d_Share_init_44 (fun w44 H jP jD jS => ?_)
  have jP : va_P D classes [(h, .inr (1, [.ref w8, .ref w17, .ref w26, .ref w35, .null, .null, .null, .int (iZ 0)])), (w8, .inl (cI, 256, .inl (zA (fun _ => 0)))), (w17, .inl (cI, 4096, .inl (zA (fun _ => 0)))), (w26, .inl (cI, 4096, .inl (zA (fun _ => 0)))), (w35, .inl (cI, 4096, .inl (zA (fun _ => 0)))), (w44, .inl (cI, 4096, .inl (zA (fun _ => 0))))] H := jP
  have jD : va_D A [(h, .inr (1, [.ref w8, .ref w17, .ref w26, .ref w35, .null, .null, .null, .int (iZ 0)])), (w8, .inl (cI, 256, .inl (zA (fun _ => 0)))), (w17, .inl (cI, 4096, .inl (zA (fun _ => 0)))), (w26, .inl (cI, 4096, .inl (zA (fun _ => 0)))), (w35, .inl (cI, 4096, .inl (zA (fun _ => 0)))), (w44, .inl (cI, 4096, .inl (zA (fun _ => 0))))] := jD
  refine va_putF (D := D) (ci := 1) (v := .ref w44) (ty := (.array .int)) (C := R_Share) (T := F_Share) (N := 8) jx jb jts i_Share t_Share t_Share_ok n_Share jown jK.1 jP jD jS 0 rfl rfl 4 (by decide) (jts _ fl_Share_24) (fun _ h9 => h9) rfl jmn rfl (by decide +kernel) rfl rfl (Nat.le_of_ble_eq_true rfl) d_Share_init_46 (fun H locs jP jD jS => ?_)
  have jP : va_P D classes [(h, .inr (1, [.ref w8, .ref w17, .ref w26, .ref w35, .ref w44, .null, .null, .int (iZ 0)])), (w8, .inl (cI, 256, .inl (zA (fun _ => 0)))), (w17, .inl (cI, 4096, .inl (zA (fun _ => 0)))), (w26, .inl (cI, 4096, .inl (zA (fun _ => 0)))), (w35, .inl (cI, 4096, .inl (zA (fun _ => 0)))), (w44, .inl (cI, 4096, .inl (zA (fun _ => 0))))] H := jP
  have jD : va_D A [(h, .inr (1, [.ref w8, .ref w17, .ref w26, .ref w35, .ref w44, .null, .null, .int (iZ 0)])), (w8, .inl (cI, 256, .inl (zA (fun _ => 0)))), (w17, .inl (cI, 4096, .inl (zA (fun _ => 0)))), (w26, .inl (cI, 4096, .inl (zA (fun _ => 0)))), (w35, .inl (cI, 4096, .inl (zA (fun _ => 0)))), (w44, .inl (cI, 4096, .inl (zA (fun _ => 0))))] := jD
  refine lv_aload_n jx jb d_Share_init_49 rfl (lv_at jl 0 rfl) ?_
  refine lv_sipush (v := iZ 256) jx jb d_Share_init_50 (by decide) ?_
  refine z_newa jx jb (jts _ ac_int) rfl rfl rfl jK.1 jP jD jS jA 0 rfl 256 ⟨rfl, by decide⟩ (Nat.le_of_ble_eq_true rfl) (Nat.le_of_ble_eq_true rfl) d_Share_init_53 (fun w53 H jP jD jS => ?_)
  have jP : va_P D classes [(h, .inr (1, [.ref w8, .ref w17, .ref w26, .ref w35, .ref w44, .null, .null, .int (iZ 0)])), (w8, .inl (cI, 256, .inl (zA (fun _ => 0)))), (w17, .inl (cI, 4096, .inl (zA (fun _ => 0)))), (w26, .inl (cI, 4096, .inl (zA (fun _ => 0)))), (w35, .inl (cI, 4096, .inl (zA (fun _ => 0)))), (w44, .inl (cI, 4096, .inl (zA (fun _ => 0)))), (w53, .inl (cI, 256, .inl (zA (fun _ => 0))))] H := jP
  have jD : va_D A [(h, .inr (1, [.ref w8, .ref w17, .ref w26, .ref w35, .ref w44, .null, .null, .int (iZ 0)])), (w8, .inl (cI, 256, .inl (zA (fun _ => 0)))), (w17, .inl (cI, 4096, .inl (zA (fun _ => 0)))), (w26, .inl (cI, 4096, .inl (zA (fun _ => 0)))), (w35, .inl (cI, 4096, .inl (zA (fun _ => 0)))), (w44, .inl (cI, 4096, .inl (zA (fun _ => 0)))), (w53, .inl (cI, 256, .inl (zA (fun _ => 0))))] := jD
  refine va_putF (D := D) (ci := 1) (v := .ref w53) (ty := (.array .int)) (C := R_Share) (T := F_Share) (N := 8) jx jb jts i_Share t_Share t_Share_ok n_Share jown jK.1 jP jD jS 0 rfl rfl 5 (by decide) (jts _ fl_Share_27) (fun _ h9 => h9) rfl jmn rfl (by decide +kernel) rfl rfl (Nat.le_of_ble_eq_true rfl) d_Share_init_55 (fun H locs jP jD jS => ?_)
  have jP : va_P D classes [(h, .inr (1, [.ref w8, .ref w17, .ref w26, .ref w35, .ref w44, .ref w53, .null, .int (iZ 0)])), (w8, .inl (cI, 256, .inl (zA (fun _ => 0)))), (w17, .inl (cI, 4096, .inl (zA (fun _ => 0)))), (w26, .inl (cI, 4096, .inl (zA (fun _ => 0)))), (w35, .inl (cI, 4096, .inl (zA (fun _ => 0)))), (w44, .inl (cI, 4096, .inl (zA (fun _ => 0)))), (w53, .inl (cI, 256, .inl (zA (fun _ => 0))))] H := jP
  have jD : va_D A [(h, .inr (1, [.ref w8, .ref w17, .ref w26, .ref w35, .ref w44, .ref w53, .null, .int (iZ 0)])), (w8, .inl (cI, 256, .inl (zA (fun _ => 0)))), (w17, .inl (cI, 4096, .inl (zA (fun _ => 0)))), (w26, .inl (cI, 4096, .inl (zA (fun _ => 0)))), (w35, .inl (cI, 4096, .inl (zA (fun _ => 0)))), (w44, .inl (cI, 4096, .inl (zA (fun _ => 0)))), (w53, .inl (cI, 256, .inl (zA (fun _ => 0))))] := jD
  refine lv_aload_n jx jb d_Share_init_58 rfl (lv_at jl 0 rfl) ?_
  refine lv_sipush (v := iZ 256) jx jb d_Share_init_59 (by decide) ?_
  refine z_newa jx jb (jts _ ac_int) rfl rfl rfl jK.1 jP jD jS jA 0 rfl 256 ⟨rfl, by decide⟩ (Nat.le_of_ble_eq_true rfl) (Nat.le_of_ble_eq_true rfl) d_Share_init_62 (fun w62 H jP jD jS => ?_)
  have jP : va_P D classes [(h, .inr (1, [.ref w8, .ref w17, .ref w26, .ref w35, .ref w44, .ref w53, .null, .int (iZ 0)])), (w8, .inl (cI, 256, .inl (zA (fun _ => 0)))), (w17, .inl (cI, 4096, .inl (zA (fun _ => 0)))), (w26, .inl (cI, 4096, .inl (zA (fun _ => 0)))), (w35, .inl (cI, 4096, .inl (zA (fun _ => 0)))), (w44, .inl (cI, 4096, .inl (zA (fun _ => 0)))), (w53, .inl (cI, 256, .inl (zA (fun _ => 0)))), (w62, .inl (cI, 256, .inl (zA (fun _ => 0))))] H := jP
  have jD : va_D A [(h, .inr (1, [.ref w8, .ref w17, .ref w26, .ref w35, .ref w44, .ref w53, .null, .int (iZ 0)])), (w8, .inl (cI, 256, .inl (zA (fun _ => 0)))), (w17, .inl (cI, 4096, .inl (zA (fun _ => 0)))), (w26, .inl (cI, 4096, .inl (zA (fun _ => 0)))), (w35, .inl (cI, 4096, .inl (zA (fun _ => 0)))), (w44, .inl (cI, 4096, .inl (zA (fun _ => 0)))), (w53, .inl (cI, 256, .inl (zA (fun _ => 0)))), (w62, .inl (cI, 256, .inl (zA (fun _ => 0))))] := jD
  refine va_putF (D := D) (ci := 1) (v := .ref w62) (ty := (.array .int)) (C := R_Share) (T := F_Share) (N := 8) jx jb jts i_Share t_Share t_Share_ok n_Share jown jK.1 jP jD jS 0 rfl rfl 6 (by decide) (jts _ fl_Share_30) (fun _ h9 => h9) rfl jmn rfl (by decide +kernel) rfl rfl (Nat.le_of_ble_eq_true rfl) d_Share_init_64 (fun H locs jP jD jS => ?_)
  have jP : va_P D classes [(h, .inr (1, [.ref w8, .ref w17, .ref w26, .ref w35, .ref w44, .ref w53, .ref w62, .int (iZ 0)])), (w8, .inl (cI, 256, .inl (zA (fun _ => 0)))), (w17, .inl (cI, 4096, .inl (zA (fun _ => 0)))), (w26, .inl (cI, 4096, .inl (zA (fun _ => 0)))), (w35, .inl (cI, 4096, .inl (zA (fun _ => 0)))), (w44, .inl (cI, 4096, .inl (zA (fun _ => 0)))), (w53, .inl (cI, 256, .inl (zA (fun _ => 0)))), (w62, .inl (cI, 256, .inl (zA (fun _ => 0))))] H := jP
  have jD : va_D A [(h, .inr (1, [.ref w8, .ref w17, .ref w26, .ref w35, .ref w44, .ref w53, .ref w62, .int (iZ 0)])), (w8, .inl (cI, 256, .inl (zA (fun _ => 0)))), (w17, .inl (cI, 4096, .inl (zA (fun _ => 0)))), (w26, .inl (cI, 4096, .inl (zA (fun _ => 0)))), (w35, .inl (cI, 4096, .inl (zA (fun _ => 0)))), (w44, .inl (cI, 4096, .inl (zA (fun _ => 0)))), (w53, .inl (cI, 256, .inl (zA (fun _ => 0)))), (w62, .inl (cI, 256, .inl (zA (fun _ => 0))))] := jD
  exact jret _ _ (w8, w17, w26, w35, w44, w53, w62) _ _ (trivial) (jP.sub [0, 1, 2, 3, 4, 5, 6, 7] rfl) (jD.sub [0, 1, 2, 3, 4, 5, 6, 7] (by decide) rfl) jS d_Share_init_67
abbrev rm_Share_giveNumber : Room := { frames := 4, cells := 0, slots := 0, locals := 84 }
set_option maxHeartbeats 4000000 in
set_option maxRecDepth 100000 in
theorem c_Share_giveNumber (l : Launch) (D : va_G) (cI cB cZ : ClassId) (sz : Nat) (h : Nat) (pP : Nat) (pS : Nat) (pB : Nat) (pA : Nat) (pC : Nat) (pF : Nat) (pN : Nat) (o : Nat) (gP : Nat → Int) (gF : Nat → Int) (gC : Nat → Int) (gB : Nat → Int) (gA : Nat → Int) (k : Int) (x : Int) (y : Int) (ho : o ≤ 12) (ho0 : 0 < o) (hk : 0 ≤ k ∧ k < 2 ^ o) (hx1 : 0 ≤ x ∧ x < 256) (hpr : ∀ k, k < 256 → -1 ≤ gP k ∧ gP k ≤ 65536) (hs : 0 ≤ gF x.toNat + y - wgt (gP x.toNat) ∧ gF x.toNat + y - wgt (gP x.toNat) < 2 ^ o) (hy : 1 ≤ y ∧ y < 2 ^ (o + 1)) : Met l y_Share_giveNumber (.code y_Share_giveNumber b_Share_giveNumber 5 none :: zT) rm_Share_giveNumber (zPc D classes (TY cI cB cZ) [(h, .inr (1, [.ref pP, .ref pS, .ref pB, .ref pA, .ref pC, .ref pF, .ref pN, .int (iZ (o : Int))])), (pP, .inl (cI, 256, .inl (zA gP))), (pF, .inl (cI, 256, .inl (zA gF))), (pC, .inl (cI, 4096, .inl (zA gC))), (pB, .inl (cI, 4096, .inl (zA gB))), (pA, .inl (cI, 4096, .inl (zA gA)))] sz [.ref h, .int (iZ k), .int (iZ x), .int (iZ y)]) (zFv (S := Unit) D classes (fun _u => True) (fun _u => [(h, .inr (1, [.ref pP, .ref pS, .ref pB, .ref pA, .ref pC, .ref pF, .ref pN, .int (iZ (o : Int))])), (pP, .inl (cI, 256, .inl (zA gP))), (pF, .inl (cI, 256, .inl (zA gF))), (pC, .inl (cI, 4096, .inl (zA (zu gC (gF x.toNat + y - wgt (gP x.toNat)).toNat k)))), (pB, .inl (cI, 4096, .inl (zA (zu gB k.toNat ((o : Int) - (zlog y : Int)))))), (pA, .inl (cI, 4096, .inl (zA (zu gA k.toNat (y * 2 ^ (o - zlog y) - 2 ^ o)))))]) (va_A [(h, .inr (1, [.ref pP, .ref pS, .ref pB, .ref pA, .ref pC, .ref pF, .ref pN, .int (iZ (o : Int))])), (pP, .inl (cI, 256, .inl (zA gP))), (pF, .inl (cI, 256, .inl (zA gF))), (pC, .inl (cI, 4096, .inl (zA gC))), (pB, .inl (cI, 4096, .inl (zA gB))), (pA, .inl (cI, 4096, .inl (zA gA)))] sz)) 0 0 (va_A [(h, .inr (1, [.ref pP, .ref pS, .ref pB, .ref pA, .ref pC, .ref pF, .ref pN, .int (iZ (o : Int))])), (pP, .inl (cI, 256, .inl (zA gP))), (pF, .inl (cI, 256, .inl (zA gF))), (pC, .inl (cI, 4096, .inl (zA gC))), (pB, .inl (cI, 4096, .inl (zA gB))), (pA, .inl (cI, 4096, .inl (zA gA)))] sz) := by
  refine z_ofv (by decide) (Nat.le_of_ble_eq_true rfl) rfl ?_
  intro p e s m args below meth c A Q E jmn jA jK jret H locs jP jD jS ls jl
  obtain ⟨jx, jb, jrt, jml, jown, jts, jlk⟩ := E
  have jown : s.vm.findClass R_Share = some m.cls := jown
  have hp12 := p2_le ho
  have hp13 := p2_le (show o + 1 ≤ 13 by omega)
  have hzl := zlog_le hy.1 hy.2
  have jl : lv_has ls 5 [(0, .ref h), (1, .int (iZ k)), (2, .int (iZ x)), (3, .int (iZ y))] := jl
  refine lv_aload_n jx jb d_Share_giveNumber_0 rfl (lv_at jl 0 rfl) ?_
  refine lv_iload_n jx jb d_Share_giveNumber_1 rfl (lv_at jl 2 rfl) ?_
  refine lv_iload_n jx jb d_Share_giveNumber_2 rfl (lv_at jl 3 rfl) ?_
  refine z_backe (va_runV (As := [.int (iZ x), .int (iZ y)]) (rest := []) ⟨jx, jb, jml, jown, jts⟩ (c_Share_slotOf l D cI cB cZ h pP pS pB pA pC pF pN o gP gF x y (by first | assumption | omega) (by first | assumption | omega)) (zc_V 2 jts cd_Share_slotOf lk_Share_59 im_Share_slotOf se_Share_slotOf in_Share hd_Share_slotOf ⟨Nat.le_of_ble_eq_true rfl, Nat.le_of_ble_eq_true rfl⟩ rfl rfl) (z_preVR jK jP [0, 1, 2] rfl rfl rfl) rfl rfl jl.1 rfl (lv_room (Nat.le_of_ble_eq_true rfl)) d_Share_giveNumber_3 ⟨Nat.le_of_ble_eq_true rfl, Nat.le_of_ble_eq_true rfl⟩) ?_
  refine lv_istore (lv' := [(4, .int (iZ (gF x.toNat + y - wgt (gP x.toNat)))), (0, .ref h), (1, .int (iZ k)), (2, .int (iZ x)), (3, .int (iZ y))]) jx jb d_Share_giveNumber_6 jl (by decide) rfl (fun ls jl => ?_)
  refine lv_aload_n jx jb d_Share_giveNumber_8 rfl (lv_at jl 1 rfl) ?_
  refine lv_iload_n jx jb d_Share_giveNumber_9 rfl (lv_at jl 2 rfl) ?_
  refine z_backr (va_runV (As := [.int (iZ k)]) (rest := []) ⟨jx, jb, jml, jown, jts⟩ (c_Share_hasCell l D cI cB cZ h pP pS pB pA pC pF pN o k (by first | assumption | omega) (by first | assumption | omega)) (zc_V 1 jts cd_Share_hasCell lk_Share_56 im_Share_hasCell se_Share_hasCell in_Share hd_Share_hasCell ⟨Nat.le_of_ble_eq_true rfl, Nat.le_of_ble_eq_true rfl⟩ rfl rfl) (z_preVR jK jP [0] rfl rfl rfl) rfl rfl jl.1 rfl (lv_room (Nat.le_of_ble_eq_true rfl)) d_Share_giveNumber_10 ⟨Nat.le_of_ble_eq_true rfl, Nat.le_of_ble_eq_true rfl⟩) (fun z10 hz10 => ?_)
  rcases hz10 with ⟨rfl, hq10⟩ | ⟨rfl, hq10⟩
  ·
    refine z_if_eq (tgt := 67) jx jb d_Share_giveNumber_13 (by decide) ⟨by decide, by decide⟩ (fun hc13 => ?_) (fun hc13 => ?_)
    ·
      exact absurd hc13 (by decide)
    ·
      refine lv_aload_n jx jb d_Share_giveNumber_16 rfl (lv_at jl 1 rfl) ?_
      refine lv_iload jx jb d_Share_giveNumber_17 (lv_at jl 0 rfl) ?_
      refine z_backr (va_runV (As := [.int (iZ (gF x.toNat + y - wgt (gP x.toNat)))]) (rest := []) ⟨jx, jb, jml, jown, jts⟩ (c_Share_hasCell l D cI cB cZ h pP pS pB pA pC pF pN o (gF x.toNat + y - wgt (gP x.toNat)) (by first | assumption | omega) (by first | assumption | omega)) (zc_V 1 jts cd_Share_hasCell lk_Share_56 im_Share_hasCell se_Share_hasCell in_Share hd_Share_hasCell ⟨Nat.le_of_ble_eq_true rfl, Nat.le_of_ble_eq_true rfl⟩ rfl rfl) (z_preVR jK jP [0] rfl rfl rfl) rfl rfl jl.1 rfl (lv_room (Nat.le_of_ble_eq_true rfl)) d_Share_giveNumber_19 ⟨Nat.le_of_ble_eq_true rfl, Nat.le_of_ble_eq_true rfl⟩) (fun z19 hz19 => ?_)
      rcases hz19 with ⟨rfl, hq19⟩ | ⟨rfl, hq19⟩
      ·
        refine z_if_eq (tgt := 67) jx jb d_Share_giveNumber_22 (by decide) ⟨by decide, by decide⟩ (fun hc22 => ?_) (fun hc22 => ?_)
        ·
          exact absurd hc22 (by decide)
        ·
          refine lv_aload_n jx jb d_Share_giveNumber_25 rfl (lv_at jl 1 rfl) ?_
          refine va_get (D := D) (ci := 1) (v := .ref pC) (C := R_Share) (T := F_Share) (N := 8) jx jb jts i_Share jown jK.1 jP 0 rfl rfl 4 (by decide) (jts _ fl_Share_24) (fun _ h9 => h9) rfl d_Share_giveNumber_26 ?_
          refine lv_iload jx jb d_Share_giveNumber_29 (lv_at jl 0 rfl) ?_
          refine lv_iload_n jx jb d_Share_giveNumber_31 rfl (lv_at jl 2 rfl) ?_
          refine z_iast jx jb jK.1 jP jD jS 3 0 rfl rfl ((gF x.toNat + y - wgt (gP x.toNat)).toNat) (by omega) d_Share_giveNumber_32 (fun H locs jP jD jS => ?_)
          have jP : va_P D classes [(h, .inr (1, [.ref pP, .ref pS, .ref pB, .ref pA, .ref pC, .ref pF, .ref pN, .int (iZ (o : Int))])), (pP, .inl (cI, 256, .inl (zA gP))), (pF, .inl (cI, 256, .inl (zA gF))), (pC, .inl (cI, 4096, .inl (zA (zu gC ((gF x.toNat + y - wgt (gP x.toNat)).toNat) k)))), (pB, .inl (cI, 4096, .inl (zA gB))), (pA, .inl (cI, 4096, .inl (zA gA)))] H := jP
          have jD : va_D A [(h, .inr (1, [.ref pP, .ref pS, .ref pB, .ref pA, .ref pC, .ref pF, .ref pN, .int (iZ (o : Int))])), (pP, .inl (cI, 256, .inl (zA gP))), (pF, .inl (cI, 256, .inl (zA gF))), (pC, .inl (cI, 4096, .inl (zA (zu gC ((gF x.toNat + y - wgt (gP x.toNat)).toNat) k)))), (pB, .inl (cI, 4096, .inl (zA gB))), (pA, .inl (cI, 4096, .inl (zA gA)))] := jD
          refine lv_aload_n jx jb d_Share_giveNumber_33 rfl (lv_at jl 1 rfl) ?_
          refine va_get (D := D) (ci := 1) (v := .ref pB) (C := R_Share) (T := F_Share) (N := 8) jx jb jts i_Share jown jK.1 jP 0 rfl rfl 2 (by decide) (jts _ fl_Share_18) (fun _ h9 => h9) rfl d_Share_giveNumber_34 ?_
          refine lv_iload_n jx jb d_Share_giveNumber_37 rfl (lv_at jl 2 rfl) ?_
          refine lv_aload_n jx jb d_Share_giveNumber_38 rfl (lv_at jl 1 rfl) ?_
          refine va_get (D := D) (ci := 1) (v := .int (iZ (o : Int))) (C := R_Share) (T := F_Share) (N := 8) jx jb jts i_Share jown jK.1 jP 0 rfl rfl 7 (by decide) (jts _ fl_Share_33) (fun _ h9 => h9) rfl d_Share_giveNumber_39 ?_
          refine lv_iload_n jx jb d_Share_giveNumber_42 rfl (lv_at jl 4 rfl) ?_
          refine z_backe (va_runSN (As := [.int (iZ y)]) (rest := [.int (iZ (o : Int)), .int (iZ k), .ref pB]) ⟨jx, jb, jml, jown, jts⟩ (c_exponent l D cI cB cZ y (by first | assumption | omega)) (zc_SN 1 jts cd_SC_exponent (jK.nest ln_Share_83 rfl) st_SC_exponent in_SC hd_SC_exponent ⟨Nat.le_of_ble_eq_true rfl, Nat.le_of_ble_eq_true rfl⟩ rfl rfl) (z_preSR jK jP [] rfl) rfl rfl jl.1 rfl (lv_room (Nat.le_of_ble_eq_true rfl)) d_Share_giveNumber_43 ⟨Nat.le_of_ble_eq_true rfl, Nat.le_of_ble_eq_true rfl⟩) ?_
          refine z_isub jx jb d_Share_giveNumber_46 ?_
          refine z_iast jx jb jK.1 jP jD jS 4 0 rfl rfl k.toNat (by omega) d_Share_giveNumber_47 (fun H locs jP jD jS => ?_)
          have jP : va_P D classes [(h, .inr (1, [.ref pP, .ref pS, .ref pB, .ref pA, .ref pC, .ref pF, .ref pN, .int (iZ (o : Int))])), (pP, .inl (cI, 256, .inl (zA gP))), (pF, .inl (cI, 256, .inl (zA gF))), (pC, .inl (cI, 4096, .inl (zA (zu gC ((gF x.toNat + y - wgt (gP x.toNat)).toNat) k)))), (pB, .inl (cI, 4096, .inl (zA (zu gB k.toNat ((o : Int) - (zlog y : Int)))))), (pA, .inl (cI, 4096, .inl (zA gA)))] H := jP
          have jD : va_D A [(h, .inr (1, [.ref pP, .ref pS, .ref pB, .ref pA, .ref pC, .ref pF, .ref pN, .int (iZ (o : Int))])), (pP, .inl (cI, 256, .inl (zA gP))), (pF, .inl (cI, 256, .inl (zA gF))), (pC, .inl (cI, 4096, .inl (zA (zu gC ((gF x.toNat + y - wgt (gP x.toNat)).toNat) k)))), (pB, .inl (cI, 4096, .inl (zA (zu gB k.toNat ((o : Int) - (zlog y : Int)))))), (pA, .inl (cI, 4096, .inl (zA gA)))] := jD
          refine lv_aload_n jx jb d_Share_giveNumber_48 rfl (lv_at jl 1 rfl) ?_
          refine va_get (D := D) (ci := 1) (v := .ref pA) (C := R_Share) (T := F_Share) (N := 8) jx jb jts i_Share jown jK.1 jP 0 rfl rfl 3 (by decide) (jts _ fl_Share_21) (fun _ h9 => h9) rfl d_Share_giveNumber_49 ?_
          refine lv_iload_n jx jb d_Share_giveNumber_52 rfl (lv_at jl 2 rfl) ?_
          refine lv_iload_n jx jb d_Share_giveNumber_53 rfl (lv_at jl 4 rfl) ?_
          refine lv_aload_n jx jb d_Share_giveNumber_54 rfl (lv_at jl 1 rfl) ?_
          refine va_get (D := D) (ci := 1) (v := .ref pB) (C := R_Share) (T := F_Share) (N := 8) jx jb jts i_Share jown jK.1 jP 0 rfl rfl 2 (by decide) (jts _ fl_Share_18) (fun _ h9 => h9) rfl d_Share_giveNumber_55 ?_
          refine lv_iload_n jx jb d_Share_giveNumber_58 rfl (lv_at jl 2 rfl) ?_
          refine z_iald jx jb jK.1 jP 4 0 rfl rfl k.toNat (by omega) d_Share_giveNumber_59 ?_
          refine z_top ((o - zlog y : Nat) : Int) (by rw [zu_s]; omega) ?_
          refine z_ishl jx jb d_Share_giveNumber_60 (o - zlog y : Nat) (2 ^ (o - zlog y : Nat)) (rfl) (by omega) ?_
          refine lv_aload_n jx jb d_Share_giveNumber_61 rfl (lv_at jl 1 rfl) ?_
          refine z_backe (va_runV (As := []) (rest := [.int (iZ (y * (2 ^ (o - zlog y : Nat)))), .int (iZ k), .ref pA]) ⟨jx, jb, jml, jown, jts⟩ (c_Share_cells l D cI cB cZ h pP pS pB pA pC pF pN o (by first | assumption | omega)) (zc_V 0 jts cd_Share_cells lk_Share_41 im_Share_cells se_Share_cells in_Share hd_Share_cells ⟨Nat.le_of_ble_eq_true rfl, Nat.le_of_ble_eq_true rfl⟩ rfl rfl) (z_preVR jK jP [0] rfl rfl rfl) rfl rfl jl.1 rfl (lv_room (Nat.le_of_ble_eq_true rfl)) d_Share_giveNumber_62 ⟨Nat.le_of_ble_eq_true rfl, Nat.le_of_ble_eq_true rfl⟩) ?_
          refine z_isub jx jb d_Share_giveNumber_65 ?_
          refine z_iast jx jb jK.1 jP jD jS 5 0 rfl rfl k.toNat (by omega) d_Share_giveNumber_66 (fun H locs jP jD jS => ?_)
          have jP : va_P D classes [(h, .inr (1, [.ref pP, .ref pS, .ref pB, .ref pA, .ref pC, .ref pF, .ref pN, .int (iZ (o : Int))])), (pP, .inl (cI, 256, .inl (zA gP))), (pF, .inl (cI, 256, .inl (zA gF))), (pC, .inl (cI, 4096, .inl (zA (zu gC ((gF x.toNat + y - wgt (gP x.toNat)).toNat) k)))), (pB, .inl (cI, 4096, .inl (zA (zu gB k.toNat ((o : Int) - (zlog y : Int)))))), (pA, .inl (cI, 4096, .inl (zA (zu gA k.toNat ((y * (2 ^ (o - zlog y : Nat))) - (2 ^ o))))))] H := jP
          have jD : va_D A [(h, .inr (1, [.ref pP, .ref pS, .ref pB, .ref pA, .ref pC, .ref pF, .ref pN, .int (iZ (o : Int))])), (pP, .inl (cI, 256, .inl (zA gP))), (pF, .inl (cI, 256, .inl (zA gF))), (pC, .inl (cI, 4096, .inl (zA (zu gC ((gF x.toNat + y - wgt (gP x.toNat)).toNat) k)))), (pB, .inl (cI, 4096, .inl (zA (zu gB k.toNat ((o : Int) - (zlog y : Int)))))), (pA, .inl (cI, 4096, .inl (zA (zu gA k.toNat ((y * (2 ^ (o - zlog y : Nat))) - (2 ^ o))))))] := jD
          exact jret _ _ () _ _ (trivial) (jP.sub [0, 1, 2, 3, 4, 5] rfl) (jD.sub [0, 1, 2, 3, 4, 5] (by decide) rfl) jS d_Share_giveNumber_67
      ·
        exfalso; omega
  ·
    exfalso; omega
abbrev rm_Share_startNumbers : Room := { frames := 3, cells := 0, slots := 0, locals := 62 }
set_option maxHeartbeats 4000000 in
set_option maxRecDepth 100000 in
theorem c_Share_startNumbers (l : Launch) (D : va_G) (cI cB cZ : ClassId) (sz : Nat) (h : Nat) (pP : Nat) (pS : Nat) (pB : Nat) (pA : Nat) (pC : Nat) (pF : Nat) (pN : Nat) (o : Nat) (gP : Nat → Int) (gF : Nat → Int) (gN : Nat → Int) (hpr : ∀ k, k < 256 → -1 ≤ gP k ∧ gP k ≤ 65536) : Met l y_Share_startNumbers (.code y_Share_startNumbers b_Share_startNumbers 3 none :: zT) rm_Share_startNumbers (zPc D classes (TY cI cB cZ) [(h, .inr (1, [.ref pP, .ref pS, .ref pB, .ref pA, .ref pC, .ref pF, .ref pN, .int (iZ (o : Int))])), (pP, .inl (cI, 256, .inl (zA gP))), (pF, .inl (cI, 256, .inl (zA gF))), (pN, .inl (cI, 256, .inl (zA gN)))] sz [.ref h]) (zFv (S := (Nat → Int) × (Nat → Int)) D classes (fun u => (∀ k, k < 256 → u.1 k = cum gP k) ∧ ∀ k, k < 256 → u.2 k = wgt (gP k)) (fun u => [(h, .inr (1, [.ref pP, .ref pS, .ref pB, .ref pA, .ref pC, .ref pF, .ref pN, .int (iZ (o : Int))])), (pP, .inl (cI, 256, .inl (zA gP))), (pF, .inl (cI, 256, .inl (zA u.1))), (pN, .inl (cI, 256, .inl (zA u.2)))]) (va_A [(h, .inr (1, [.ref pP, .ref pS, .ref pB, .ref pA, .ref pC, .ref pF, .ref pN, .int (iZ (o : Int))])), (pP, .inl (cI, 256, .inl (zA gP))), (pF, .inl (cI, 256, .inl (zA gF))), (pN, .inl (cI, 256, .inl (zA gN)))] sz)) 0 0 (va_A [(h, .inr (1, [.ref pP, .ref pS, .ref pB, .ref pA, .ref pC, .ref pF, .ref pN, .int (iZ (o : Int))])), (pP, .inl (cI, 256, .inl (zA gP))), (pF, .inl (cI, 256, .inl (zA gF))), (pN, .inl (cI, 256, .inl (zA gN)))] sz) := by
  refine z_ofv (by decide) (Nat.le_of_ble_eq_true rfl) rfl ?_
  intro p e s m args below meth c A Q E jmn jA jK jret H locs jP jD jS ls jl
  obtain ⟨jx, jb, jrt, jml, jown, jts, jlk⟩ := E
  have jown : s.vm.findClass R_Share = some m.cls := jown
  have jl : lv_has ls 3 [(0, .ref h)] := jl
  refine lv_iconst (v := iZ 0) jx jb d_Share_startNumbers_0 rfl ?_
  refine lv_istore_n (lv' := [(1, .int (iZ 0)), (0, .ref h)]) jx jb d_Share_startNumbers_1 rfl jl (by decide) rfl (fun ls jl => ?_)
  refine lv_iconst (v := iZ 0) jx jb d_Share_startNumbers_2 rfl ?_
  refine lv_istore_n (lv' := [(2, .int (iZ 0)), (1, .int (iZ 0)), (0, .ref h)]) jx jb d_Share_startNumbers_3 rfl jl (by decide) rfl (fun ls jl => ?_)
  have hloop4 : ∀ (nF : Nat) (i : Nat) (gF2 : Nat → Int) (gN2 : Nat → Int), 256 - i < nF → (i ≤ 256) → (∀ k, k < i → gF2 k = cum gP k) → (∀ k, k < i → gN2 k = wgt (gP k)) → ∀ (H : Heap) (locs : List Loc), va_P D classes [(h, .inr (1, [.ref pP, .ref pS, .ref pB, .ref pA, .ref pC, .ref pF, .ref pN, .int (iZ (o : Int))])), (pP, .inl (cI, 256, .inl (zA gP))), (pF, .inl (cI, 256, .inl (zA gF2))), (pN, .inl (cI, 256, .inl (zA gN2)))] H → va_D A [(h, .inr (1, [.ref pP, .ref pS, .ref pB, .ref pA, .ref pC, .ref pF, .ref pN, .int (iZ (o : Int))])), (pP, .inl (cI, 256, .inl (zA gP))), (pF, .inl (cI, 256, .inl (zA gF2))), (pN, .inl (cI, 256, .inl (zA gN2)))] → va_S A s.heap H locs → ∀ ls : Array Slot, lv_has ls 3 [(0, .ref h), (1, .int (iZ (cum gP i))), (2, .int (iZ (i : Int)))] → W p l e rm_Share_startNumbers s m args below meth c H locs 0 0 Q (F0 m 4 ls []) := by
    intro nF
    induction nF with
    | zero => intro i gF2 gN2 hm; exact absurd hm (Nat.not_lt_zero _)
    | succ nF ih4 =>
      intro i gF2 gN2 hm hi h1 h2 H locs jP jD jS ls jl
      refine lv_iload_n jx jb d_Share_startNumbers_4 rfl (lv_at jl 2 rfl) ?_
      refine lv_sipush (v := iZ 256) jx jb d_Share_startNumbers_5 (by decide) ?_
      refine z_icmp_ge (tgt := 43) jx jb d_Share_startNumbers_8 (by decide) ⟨⟨by omega, by omega⟩, ⟨by decide, by decide⟩⟩ (fun hc8 => ?_) (fun hc8 => ?_)
      ·
        exact jret _ _ (gF2, gN2) _ _ (⟨fun k h => h1 k (by omega), fun k h => h2 k (by omega)⟩) (jP.sub [0, 1, 2, 3] rfl) (jD.sub [0, 1, 2, 3] (by decide) rfl) jS d_Share_startNumbers_43
      ·
        refine lv_aload_n jx jb d_Share_startNumbers_11 rfl (lv_at jl 0 rfl) ?_
        refine va_get (D := D) (ci := 1) (v := .ref pF) (C := R_Share) (T := F_Share) (N := 8) jx jb jts i_Share jown jK.1 jP 0 rfl rfl 5 (by decide) (jts _ fl_Share_27) (fun _ h9 => h9) rfl d_Share_startNumbers_12 ?_
        refine lv_iload_n jx jb d_Share_startNumbers_15 rfl (lv_at jl 2 rfl) ?_
        refine lv_iload_n jx jb d_Share_startNumbers_16 rfl (lv_at jl 1 rfl) ?_
        refine z_iast jx jb jK.1 jP jD jS 2 0 rfl rfl i (by omega) d_Share_startNumbers_17 (fun H locs jP jD jS => ?_)
        have jP : va_P D classes [(h, .inr (1, [.ref pP, .ref pS, .ref pB, .ref pA, .ref pC, .ref pF, .ref pN, .int (iZ (o : Int))])), (pP, .inl (cI, 256, .inl (zA gP))), (pF, .inl (cI, 256, .inl (zA (zu gF2 i (cum gP i))))), (pN, .inl (cI, 256, .inl (zA gN2)))] H := jP
        have jD : va_D A [(h, .inr (1, [.ref pP, .ref pS, .ref pB, .ref pA, .ref pC, .ref pF, .ref pN, .int (iZ (o : Int))])), (pP, .inl (cI, 256, .inl (zA gP))), (pF, .inl (cI, 256, .inl (zA (zu gF2 i (cum gP i))))), (pN, .inl (cI, 256, .inl (zA gN2)))] := jD
        refine lv_aload_n jx jb d_Share_startNumbers_18 rfl (lv_at jl 0 rfl) ?_
        refine va_get (D := D) (ci := 1) (v := .ref pN) (C := R_Share) (T := F_Share) (N := 8) jx jb jts i_Share jown jK.1 jP 0 rfl rfl 6 (by decide) (jts _ fl_Share_30) (fun _ h9 => h9) rfl d_Share_startNumbers_19 ?_
        refine lv_iload_n jx jb d_Share_startNumbers_22 rfl (lv_at jl 2 rfl) ?_
        refine lv_aload_n jx jb d_Share_startNumbers_23 rfl (lv_at jl 0 rfl) ?_
        refine lv_iload_n jx jb d_Share_startNumbers_24 rfl (lv_at jl 2 rfl) ?_
        refine z_backe (va_runV (As := [.int (iZ (i : Int))]) (rest := [.int (iZ (i : Int)), .ref pN]) ⟨jx, jb, jml, jown, jts⟩ (c_Share_weightOf l D cI cB cZ h pP pS pB pA pC pF pN o gP (i : Int) (by first | assumption | omega) (by first | assumption | omega)) (zc_V 1 jts cd_Share_weightOf lk_Share_76 im_Share_weightOf se_Share_weightOf in_Share hd_Share_weightOf ⟨Nat.le_of_ble_eq_true rfl, Nat.le_of_ble_eq_true rfl⟩ rfl rfl) (z_preVR jK jP [0, 1] rfl rfl rfl) rfl rfl jl.1 rfl (lv_room (Nat.le_of_ble_eq_true rfl)) d_Share_startNumbers_25 ⟨Nat.le_of_ble_eq_true rfl, Nat.le_of_ble_eq_true rfl⟩) ?_
        refine z_iast jx jb jK.1 jP jD jS 3 0 rfl rfl i (by omega) d_Share_startNumbers_28 (fun H locs jP jD jS => ?_)
        have jP : va_P D classes [(h, .inr (1, [.ref pP, .ref pS, .ref pB, .ref pA, .ref pC, .ref pF, .ref pN, .int (iZ (o : Int))])), (pP, .inl (cI, 256, .inl (zA gP))), (pF, .inl (cI, 256, .inl (zA (zu gF2 i (cum gP i))))), (pN, .inl (cI, 256, .inl (zA (zu gN2 i (wgt (gP (i : Int).toNat))))))] H := jP
        have jD : va_D A [(h, .inr (1, [.ref pP, .ref pS, .ref pB, .ref pA, .ref pC, .ref pF, .ref pN, .int (iZ (o : Int))])), (pP, .inl (cI, 256, .inl (zA gP))), (pF, .inl (cI, 256, .inl (zA (zu gF2 i (cum gP i))))), (pN, .inl (cI, 256, .inl (zA (zu gN2 i (wgt (gP (i : Int).toNat))))))] := jD
        refine lv_iload_n jx jb d_Share_startNumbers_29 rfl (lv_at jl 1 rfl) ?_
        refine lv_aload_n jx jb d_Share_startNumbers_30 rfl (lv_at jl 0 rfl) ?_
        refine lv_iload_n jx jb d_Share_startNumbers_31 rfl (lv_at jl 2 rfl) ?_
        refine z_backe (va_runV (As := [.int (iZ (i : Int))]) (rest := [.int (iZ (cum gP i))]) ⟨jx, jb, jml, jown, jts⟩ (c_Share_weightOf l D cI cB cZ h pP pS pB pA pC pF pN o gP (i : Int) (by first | assumption | omega) (by first | assumption | omega)) (zc_V 1 jts cd_Share_weightOf lk_Share_76 im_Share_weightOf se_Share_weightOf in_Share hd_Share_weightOf ⟨Nat.le_of_ble_eq_true rfl, Nat.le_of_ble_eq_true rfl⟩ rfl rfl) (z_preVR jK jP [0, 1] rfl rfl rfl) rfl rfl jl.1 rfl (lv_room (Nat.le_of_ble_eq_true rfl)) d_Share_startNumbers_32 ⟨Nat.le_of_ble_eq_true rfl, Nat.le_of_ble_eq_true rfl⟩) ?_
        refine z_iadd jx jb d_Share_startNumbers_35 ?_
        refine lv_istore_n (lv' := [(1, .int (iZ ((cum gP i) + (wgt (gP (i : Int).toNat))))), (0, .ref h), (2, .int (iZ (i : Int)))]) jx jb d_Share_startNumbers_36 rfl jl (by decide) rfl (fun ls jl => ?_)
        refine lv_iinc (v := iZ ((i : Int) + 1)) (lv' := [(2, .int (iZ ((i : Int) + 1))), (1, .int (iZ ((cum gP i) + (wgt (gP (i : Int).toNat))))), (0, .ref h)]) jx jb d_Share_startNumbers_37 jl (k := 2) rfl (iZ_add _ _) (by decide) rfl (fun ls jl => ?_)
        refine lv_goto (tgt := 4) jx jb d_Share_startNumbers_40 (by decide) ?_
        exact ih4 (i + 1) (zu gF2 i (cum gP i)) (zu gN2 i (wgt (gP (i : Int).toNat))) (by omega) (by first | assumption | omega) (zu_all h1 rfl) (zu_all h2 rfl) _ _ (jP.sub [0, 1, 2, 3] rfl) (jD.sub [0, 1, 2, 3] (by decide) rfl) jS _ (lv_sub jl [2, 1, 0] rfl)
  exact hloop4 ((256 - 0) + 1) 0 gF gN (Nat.lt_succ_self _) (by first | assumption | omega) (fun k h => absurd h (by omega)) (fun k h => absurd h (by omega)) _ _ (jP.sub [0, 1, 2, 3] rfl) (jD.sub [0, 1, 2, 3] (by decide) rfl) jS _ (lv_sub jl [2, 1, 0] rfl)
end
section
theorem lk_CountsRule_3 : Cond.methodLink R_CountsRule 3 objectInit ∈ zT := zT_of (List.mem_of_getElem? (i := 120) (by decide +kernel)) rfl
theorem fl_CountsRule_9 : Cond.fieldLink R_CountsRule 9 "StateCoder$CountsRule" "cut" "[I" ∈ zT := zT_of (List.mem_of_getElem? (i := 121) (by decide +kernel)) rfl
theorem fl_CountsRule_15 : Cond.fieldLink R_CountsRule 15 "StateCoder$CountsRule" "ranked" "[I" ∈ zT := zT_of (List.mem_of_getElem? (i := 122) (by decide +kernel)) rfl
theorem lk_SC_1 : Cond.methodLink R_SC 1 objectInit ∈ zT := zT_of (List.mem_of_getElem? (i := 51) (by decide +kernel)) rfl
theorem fl_SC_9 : Cond.fieldLink R_SC 9 "StateCoder" "counts" "[I" ∈ zT := zT_of (List.mem_of_getElem? (i := 131) (by decide +kernel)) rfl
theorem fl_SC_13 : Cond.fieldLink R_SC 13 "StateCoder" "plan" "[I" ∈ zT := zT_of (List.mem_of_getElem? (i := 132) (by decide +kernel)) rfl
theorem cl_SC_16 : Cond.classLink R_SC 16 R_Row ∈ zT := zT_of (List.mem_of_getElem? (i := 54) (by decide +kernel)) rfl
theorem is_Row : Cond.instantiable R_Row 7 ∈ zT := zT_of (List.mem_of_getElem? (i := 55) (by decide +kernel)) rfl
theorem cd_Row_init : Cond.code y_Row_init b_Row_init 1 none ∈ zT := zT_of (List.mem_of_getElem? (i := 58) (by decide +kernel)) rfl
theorem hd_Row_init : y_Row_init.cls ≠ "java/lang/invoke/MethodHandle" ∧ y_Row_init.cls ≠ "java/lang/invoke/VarHandle" ∧ (parseMethodDescriptor y_Row_init.desc).map (fun d => d.parameters.length) = some 0 := by decide +kernel
theorem ln_SC_18 : Cond.methodLinkNest R_SC 18 y_Row_init R_SC ∈ lw_tbl := List.mem_of_getElem? (i := 56) (by decide +kernel)
theorem im_Row_init : Cond.instanceMethod y_Row_init ∈ zT := zT_of (List.mem_of_getElem? (i := 57) (by decide +kernel)) rfl
theorem fl_SC_19 : Cond.fieldLink R_SC 19 "StateCoder" "in" "LStateCoder$Row;" ∈ zT := zT_of (List.mem_of_getElem? (i := 133) (by decide +kernel)) rfl
theorem cl_SC_23 : Cond.classLink R_SC 23 R_Share ∈ zT := zT_of (List.mem_of_getElem? (i := 84) (by decide +kernel)) rfl
theorem is_Share : Cond.instantiable R_Share 8 ∈ zT := zT_of (List.mem_of_getElem? (i := 85) (by decide +kernel)) rfl
theorem cd_Share_init : Cond.code y_Share_init b_Share_init 1 none ∈ zT := zT_of (List.mem_of_getElem? (i := 88) (by decide +kernel)) rfl
theorem hd_Share_init : y_Share_init.cls ≠ "java/lang/invoke/MethodHandle" ∧ y_Share_init.cls ≠ "java/lang/invoke/VarHandle" ∧ (parseMethodDescriptor y_Share_init.desc).map (fun d => d.parameters.length) = some 0 := by decide +kernel
theorem ln_SC_25 : Cond.methodLinkNest R_SC 25 y_Share_init R_SC ∈ lw_tbl := List.mem_of_getElem? (i := 86) (by decide +kernel)
theorem im_Share_init : Cond.instanceMethod y_Share_init ∈ zT := zT_of (List.mem_of_getElem? (i := 87) (by decide +kernel)) rfl
theorem fl_SC_26 : Cond.fieldLink R_SC 26 "StateCoder" "current" "LStateCoder$Share;" ∈ zT := zT_of (List.mem_of_getElem? (i := 134) (by decide +kernel)) rfl
theorem cl_SC_30 : Cond.classLink R_SC 30 R_CountsRule ∈ zT := zT_of (List.mem_of_getElem? (i := 115) (by decide +kernel)) rfl
theorem is_CountsRule : Cond.instantiable R_CountsRule 3 ∈ zT := zT_of (List.mem_of_getElem? (i := 116) (by decide +kernel)) rfl
theorem in_CountsRule : Cond.initialized R_CountsRule ∈ zT := zT_of (List.mem_of_getElem? (i := 38) (by decide +kernel)) rfl
theorem cd_CountsRule_init : Cond.code y_CountsRule_init b_CountsRule_init 1 none ∈ zT := zT_of (List.mem_of_getElem? (i := 119) (by decide +kernel)) rfl
theorem hd_CountsRule_init : y_CountsRule_init.cls ≠ "java/lang/invoke/MethodHandle" ∧ y_CountsRule_init.cls ≠ "java/lang/invoke/VarHandle" ∧ (parseMethodDescriptor y_CountsRule_init.desc).map (fun d => d.parameters.length) = some 0 := by decide +kernel
theorem ln_SC_32 : Cond.methodLinkNest R_SC 32 y_CountsRule_init R_SC ∈ lw_tbl := List.mem_of_getElem? (i := 117) (by decide +kernel)
theorem im_CountsRule_init : Cond.instanceMethod y_CountsRule_init ∈ zT := zT_of (List.mem_of_getElem? (i := 118) (by decide +kernel)) rfl
theorem fl_SC_33 : Cond.fieldLink R_SC 33 "StateCoder" "rule" "LStateCoder$CountsRule;" ∈ zT := zT_of (List.mem_of_getElem? (i := 135) (by decide +kernel)) rfl
theorem fl_SC_37 : Cond.fieldLink R_SC 37 "StateCoder" "out" "LStateCoder$Row;" ∈ zT := zT_of (List.mem_of_getElem? (i := 136) (by decide +kernel)) rfl
theorem fl_SC_40 : Cond.fieldLink R_SC 40 "StateCoder" "spare" "LStateCoder$Row;" ∈ zT := zT_of (List.mem_of_getElem? (i := 137) (by decide +kernel)) rfl
theorem d_CountsRule_init_0 : decode b_CountsRule_init 0 = .ok (.aload_n 0, 1) := by decide +kernel
theorem d_CountsRule_init_1 : decode b_CountsRule_init 1 = .ok (.invokespecial 3, 3) := by decide +kernel
theorem d_CountsRule_init_4 : decode b_CountsRule_init 4 = .ok (.aload_n 0, 1) := by decide +kernel
theorem d_CountsRule_init_5 : decode b_CountsRule_init 5 = .ok (.sipush 256, 3) := by decide +kernel
theorem d_CountsRule_init_8 : decode b_CountsRule_init 8 = .ok (.newarray .int, 2) := by decide +kernel
theorem d_CountsRule_init_10 : decode b_CountsRule_init 10 = .ok (.putfield 9, 3) := by decide +kernel
theorem d_CountsRule_init_13 : decode b_CountsRule_init 13 = .ok (.aload_n 0, 1) := by decide +kernel
theorem d_CountsRule_init_14 : decode b_CountsRule_init 14 = .ok (.sipush 256, 3) := by decide +kernel
theorem d_CountsRule_init_17 : decode b_CountsRule_init 17 = .ok (.newarray .int, 2) := by decide +kernel
theorem d_CountsRule_init_19 : decode b_CountsRule_init 19 = .ok (.putfield 15, 3) := by decide +kernel
theorem d_CountsRule_init_22 : decode b_CountsRule_init 22 = .ok (.return_, 1) := by decide +kernel
theorem d_SC_init_0 : decode b_SC_init 0 = .ok (.aload_n 0, 1) := by decide +kernel
theorem d_SC_init_1 : decode b_SC_init 1 = .ok (.invokespecial 1, 3) := by decide +kernel
theorem d_SC_init_4 : decode b_SC_init 4 = .ok (.aload_n 0, 1) := by decide +kernel
theorem d_SC_init_5 : decode b_SC_init 5 = .ok (.sipush 256, 3) := by decide +kernel
theorem d_SC_init_8 : decode b_SC_init 8 = .ok (.newarray .int, 2) := by decide +kernel
theorem d_SC_init_10 : decode b_SC_init 10 = .ok (.putfield 9, 3) := by decide +kernel
theorem d_SC_init_13 : decode b_SC_init 13 = .ok (.aload_n 0, 1) := by decide +kernel
theorem d_SC_init_14 : decode b_SC_init 14 = .ok (.sipush 256, 3) := by decide +kernel
theorem d_SC_init_17 : decode b_SC_init 17 = .ok (.newarray .int, 2) := by decide +kernel
theorem d_SC_init_19 : decode b_SC_init 19 = .ok (.putfield 13, 3) := by decide +kernel
theorem d_SC_init_22 : decode b_SC_init 22 = .ok (.aload_n 0, 1) := by decide +kernel
theorem d_SC_init_23 : decode b_SC_init 23 = .ok (.new 16, 3) := by decide +kernel
theorem d_SC_init_26 : decode b_SC_init 26 = .ok (.dup, 1) := by decide +kernel
theorem d_SC_init_27 : decode b_SC_init 27 = .ok (.invokespecial 18, 3) := by decide +kernel
theorem d_SC_init_30 : decode b_SC_init 30 = .ok (.putfield 19, 3) := by decide +kernel
theorem d_SC_init_33 : decode b_SC_init 33 = .ok (.aload_n 0, 1) := by decide +kernel
theorem d_SC_init_34 : decode b_SC_init 34 = .ok (.new 23, 3) := by decide +kernel
theorem d_SC_init_37 : decode b_SC_init 37 = .ok (.dup, 1) := by decide +kernel
theorem d_SC_init_38 : decode b_SC_init 38 = .ok (.invokespecial 25, 3) := by decide +kernel
theorem d_SC_init_41 : decode b_SC_init 41 = .ok (.putfield 26, 3) := by decide +kernel
theorem d_SC_init_44 : decode b_SC_init 44 = .ok (.aload_n 0, 1) := by decide +kernel
theorem d_SC_init_45 : decode b_SC_init 45 = .ok (.new 30, 3) := by decide +kernel
theorem d_SC_init_48 : decode b_SC_init 48 = .ok (.dup, 1) := by decide +kernel
theorem d_SC_init_49 : decode b_SC_init 49 = .ok (.invokespecial 32, 3) := by decide +kernel
theorem d_SC_init_52 : decode b_SC_init 52 = .ok (.putfield 33, 3) := by decide +kernel
theorem d_SC_init_55 : decode b_SC_init 55 = .ok (.aload_n 0, 1) := by decide +kernel
theorem d_SC_init_56 : decode b_SC_init 56 = .ok (.new 16, 3) := by decide +kernel
theorem d_SC_init_59 : decode b_SC_init 59 = .ok (.dup, 1) := by decide +kernel
theorem d_SC_init_60 : decode b_SC_init 60 = .ok (.invokespecial 18, 3) := by decide +kernel
theorem d_SC_init_63 : decode b_SC_init 63 = .ok (.putfield 37, 3) := by decide +kernel
theorem d_SC_init_66 : decode b_SC_init 66 = .ok (.aload_n 0, 1) := by decide +kernel
theorem d_SC_init_67 : decode b_SC_init 67 = .ok (.new 16, 3) := by decide +kernel
theorem d_SC_init_70 : decode b_SC_init 70 = .ok (.dup, 1) := by decide +kernel
theorem d_SC_init_71 : decode b_SC_init 71 = .ok (.invokespecial 18, 3) := by decide +kernel
theorem d_SC_init_74 : decode b_SC_init 74 = .ok (.putfield 40, 3) := by decide +kernel
theorem d_SC_init_77 : decode b_SC_init 77 = .ok (.return_, 1) := by decide +kernel
abbrev rm_Rule_init : Room := { frames := 1, cells := 2, slots := 512, locals := 24 }
set_option maxHeartbeats 4000000 in
set_option maxRecDepth 100000 in
theorem c_Rule_init (l : Launch) (D : va_G) (cI cB cZ : ClassId) (sz : Nat) (h : Nat) : Met l y_CountsRule_init (.code y_CountsRule_init b_CountsRule_init 1 none :: zT) rm_Rule_init (zPc D classes (TY cI cB cZ) [(h, .inr (2, [.null, .null, .int (iZ 0)]))] sz [.ref h]) (zFv (S := Nat × Nat) D classes (fun u => True) (fun u => [(h, .inr (2, [.ref u.1, .ref u.2, .int (iZ 0)])), (u.1, .inl (cI, 256, .inl (zA (fun _ => 0)))), (u.2, .inl (cI, 256, .inl (zA (fun _ => 0))))]) (va_A [(h, .inr (2, [.null, .null, .int (iZ 0)]))] sz)) 2 512 (va_A [(h, .inr (2, [.null, .null, .int (iZ 0)]))] sz) := by
  refine z_ofv (by decide) (Nat.le_of_ble_eq_true rfl) rfl ?_
  intro p e s m args below meth c A Q E jmn jA jK jret H locs jP jD jS ls jl
  obtain ⟨jx, jb, jrt, jml, jown, jts, jlk⟩ := E
  have jown : s.vm.findClass R_CountsRule = some m.cls := jown
  have jl : lv_has ls 1 [(0, .ref h)] := jl
  refine lv_aload_n jx jb d_CountsRule_init_0 rfl (lv_at jl 0 rfl) ?_
  refine W.objInit jx jb jown (jts _ lk_CountsRule_3) (jts _ im_objectInit) (jts _ cd_objectInit) rfl (by rw [jml]; exact jl.1) rfl d_CountsRule_init_1 (Nat.le_of_ble_eq_true rfl) (Nat.le_of_ble_eq_true rfl) ?_
  refine W.eq (g2 := F0 m 4 ls []) rfl ?_
  refine lv_aload_n jx jb d_CountsRule_init_4 rfl (lv_at jl 0 rfl) ?_
  refine lv_sipush (v := iZ 256) jx jb d_CountsRule_init_5 (by decide) ?_
  refine z_newa jx jb (jts _ ac_int) rfl rfl rfl jK.1 jP jD jS jA 0 rfl 256 ⟨rfl, by decide⟩ (Nat.le_of_ble_eq_true rfl) (Nat.le_of_ble_eq_true rfl) d_CountsRule_init_8 (fun w8 H jP jD jS => ?_)
  have jP : va_P D classes [(h, .inr (2, [.null, .null, .int (iZ 0)])), (w8, .inl (cI, 256, .inl (zA (fun _ => 0))))] H := jP
  have jD : va_D A [(h, .inr (2, [.null, .null, .int (iZ 0)])), (w8, .inl (cI, 256, .inl (zA (fun _ => 0))))] := jD
  refine va_putF (D := D) (ci := 2) (v := .ref w8) (ty := (.array .int)) (C := R_CountsRule) (T := F_CountsRule) (N := 3) jx jb jts i_CountsRule t_CountsRule t_CountsRule_ok n_CountsRule jown jK.1 jP jD jS 0 rfl rfl 0 (by decide) (jts _ fl_CountsRule_9) (fun _ h9 => h9) rfl jmn rfl (by decide +kernel) rfl rfl (Nat.le_of_ble_eq_true rfl) d_CountsRule_init_10 (fun H locs jP jD jS => ?_)
  have jP : va_P D classes [(h, .inr (2, [.ref w8, .null, .int (iZ 0)])), (w8, .inl (cI, 256, .inl (zA (fun _ => 0))))] H := jP
  have jD : va_D A [(h, .inr (2, [.ref w8, .null, .int (iZ 0)])), (w8, .inl (cI, 256, .inl (zA (fun _ => 0))))] := jD
  refine lv_aload_n jx jb d_CountsRule_init_13 rfl (lv_at jl 0 rfl) ?_
  refine lv_sipush (v := iZ 256) jx jb d_CountsRule_init_14 (by decide) ?_
  refine z_newa jx jb (jts _ ac_int) rfl rfl rfl jK.1 jP jD jS jA 0 rfl 256 ⟨rfl, by decide⟩ (Nat.le_of_ble_eq_true rfl) (Nat.le_of_ble_eq_true rfl) d_CountsRule_init_17 (fun w17 H jP jD jS => ?_)
  have jP : va_P D classes [(h, .inr (2, [.ref w8, .null, .int (iZ 0)])), (w8, .inl (cI, 256, .inl (zA (fun _ => 0)))), (w17, .inl (cI, 256, .inl (zA (fun _ => 0))))] H := jP
  have jD : va_D A [(h, .inr (2, [.ref w8, .null, .int (iZ 0)])), (w8, .inl (cI, 256, .inl (zA (fun _ => 0)))), (w17, .inl (cI, 256, .inl (zA (fun _ => 0))))] := jD
  refine va_putF (D := D) (ci := 2) (v := .ref w17) (ty := (.array .int)) (C := R_CountsRule) (T := F_CountsRule) (N := 3) jx jb jts i_CountsRule t_CountsRule t_CountsRule_ok n_CountsRule jown jK.1 jP jD jS 0 rfl rfl 1 (by decide) (jts _ fl_CountsRule_15) (fun _ h9 => h9) rfl jmn rfl (by decide +kernel) rfl rfl (Nat.le_of_ble_eq_true rfl) d_CountsRule_init_19 (fun H locs jP jD jS => ?_)
  have jP : va_P D classes [(h, .inr (2, [.ref w8, .ref w17, .int (iZ 0)])), (w8, .inl (cI, 256, .inl (zA (fun _ => 0)))), (w17, .inl (cI, 256, .inl (zA (fun _ => 0))))] H := jP
  have jD : va_D A [(h, .inr (2, [.ref w8, .ref w17, .int (iZ 0)])), (w8, .inl (cI, 256, .inl (zA (fun _ => 0)))), (w17, .inl (cI, 256, .inl (zA (fun _ => 0))))] := jD
  exact jret _ _ (w8, w17) _ _ (trivial) (jP.sub [0, 1, 2] rfl) (jD.sub [0, 1, 2] (by decide) rfl) jS d_CountsRule_init_22
abbrev rm_SC_init : Room := { frames := 2, cells := 19, slots := 36208, locals := 44 }
set_option maxHeartbeats 4000000 in
set_option maxRecDepth 100000 in
theorem c_SC_init (l : Launch) (D : va_G) (cI cB cZ : ClassId) (sz : Nat) (g : Nat) : Met l y_SC_init (.code y_SC_init b_SC_init 1 none :: zT) rm_SC_init (zPc D classes (TY cI cB cZ) [(g, .inr (3, [.null, .null, .null, .null, .null, .null, .null, .int (iZ 0)]))] sz [.ref g]) (zFv (S := Nat × Nat × Nat × Nat × Nat × Nat × Nat × Nat × Nat × Nat × Nat × Nat × Nat × Nat × Nat × Nat × Nat × Nat × Nat) D classes (fun u => True) (fun u => [(g, .inr (3, [.ref u.1, .ref u.2.1, .ref u.2.2.1, .ref u.2.2.2.2.1, .ref u.2.2.2.2.2.2.2.2.2.2.2.2.1, .ref u.2.2.2.2.2.2.2.2.2.2.2.2.2.2.2.1, .ref u.2.2.2.2.2.2.2.2.2.2.2.2.2.2.2.2.2.1, .int (iZ 0)])), (u.1, .inl (cI, 256, .inl (zA (fun _ => 0)))), (u.2.1, .inl (cI, 256, .inl (zA (fun _ => 0)))), (u.2.2.1, .inr (0, [.ref u.2.2.2.1, .int (iZ 0), .int (iZ 0), .int (iZ 0), .int (iZ 0), .int (iZ 0), .int (iZ 0)])), (u.2.2.2.1, .inl (cB, 6000, .inl (zA (fun _ => 0)))), (u.2.2.2.2.1, .inr (1, [.ref u.2.2.2.2.2.1, .ref u.2.2.2.2.2.2.1, .ref u.2.2.2.2.2.2.2.1, .ref u.2.2.2.2.2.2.2.2.1, .ref u.2.2.2.2.2.2.2.2.2.1, .ref u.2.2.2.2.2.2.2.2.2.2.1, .ref u.2.2.2.2.2.2.2.2.2.2.2.1, .int (iZ 0)])), (u.2.2.2.2.2.1, .inl (cI, 256, .inl (zA (fun _ => 0)))), (u.2.2.2.2.2.2.1, .inl (cI, 4096, .inl (zA (fun _ => 0)))), (u.2.2.2.2.2.2.2.1, .inl (cI, 4096, .inl (zA (fun _ => 0)))), (u.2.2.2.2.2.2.2.2.1, .inl (cI, 4096, .inl (zA (fun _ => 0)))), (u.2.2.2.2.2.2.2.2.2.1, .inl (cI, 4096, .inl (zA (fun _ => 0)))), (u.2.2.2.2.2.2.2.2.2.2.1, .inl (cI, 256, .inl (zA (fun _ => 0)))), (u.2.2.2.2.2.2.2.2.2.2.2.1, .inl (cI, 256, .inl (zA (fun _ => 0)))), (u.2.2.2.2.2.2.2.2.2.2.2.2.1, .inr (2, [.ref u.2.2.2.2.2.2.2.2.2.2.2.2.2.1, .ref u.2.2.2.2.2.2.2.2.2.2.2.2.2.2.1, .int (iZ 0)])), (u.2.2.2.2.2.2.2.2.2.2.2.2.2.1, .inl (cI, 256, .inl (zA (fun _ => 0)))), (u.2.2.2.2.2.2.2.2.2.2.2.2.2.2.1, .inl (cI, 256, .inl (zA (fun _ => 0)))), (u.2.2.2.2.2.2.2.2.2.2.2.2.2.2.2.1, .inr (0, [.ref u.2.2.2.2.2.2.2.2.2.2.2.2.2.2.2.2.1, .int (iZ 0), .int (iZ 0), .int (iZ 0), .int (iZ 0), .int (iZ 0), .int (iZ 0)])), (u.2.2.2.2.2.2.2.2.2.2.2.2.2.2.2.2.1, .inl (cB, 6000, .inl (zA (fun _ => 0)))), (u.2.2.2.2.2.2.2.2.2.2.2.2.2.2.2.2.2.1, .inr (0, [.ref u.2.2.2.2.2.2.2.2.2.2.2.2.2.2.2.2.2.2, .int (iZ 0), .int (iZ 0), .int (iZ 0), .int (iZ 0), .int (iZ 0), .int (iZ 0)])), (u.2.2.2.2.2.2.2.2.2.2.2.2.2.2.2.2.2.2, .inl (cB, 6000, .inl (zA (fun _ => 0))))]) (va_A [(g, .inr (3, [.null, .null, .null, .null, .null, .null, .null, .int (iZ 0)]))] sz)) 19 36208 (va_A [(g, .inr (3, [.null, .null, .null, .null, .null, .null, .null, .int (iZ 0)]))] sz) := by
  refine z_ofv (by decide) (Nat.le_of_ble_eq_true rfl) rfl ?_
  intro p e s m args below meth c A Q E jmn jA jK jret H locs jP jD jS ls jl
  obtain ⟨jx, jb, jrt, jml, jown, jts, jlk⟩ := E
  have jown : s.vm.findClass R_SC = some m.cls := jown
  have jl : lv_has ls 1 [(0, .ref g)] := jl
  refine lv_aload_n jx jb d_SC_init_0 rfl (lv_at jl 0 rfl) ?_
  refine W.objInit jx jb jown (jts _ lk_SC_1) (jts _ im_objectInit) (jts _ cd_objectInit) rfl (by rw [jml]; exact jl.1) rfl d_SC_init_1 (Nat.le_of_ble_eq_true rfl) (Nat.le_of_ble_eq_true rfl) ?_
  refine W.eq (g2 := F0 m 4 ls []) rfl ?_
  refine lv_aload_n jx jb d_SC_init_4 rfl (lv_at jl 0 rfl) ?_
  refine lv_sipush (v := iZ 256) jx jb d_SC_init_5 (by decide) ?_
  refine z_newa jx jb (jts _ ac_int) rfl rfl rfl jK.1 jP jD jS jA 0 rfl 256 ⟨rfl, by decide⟩ (Nat.le_of_ble_eq_true rfl) (Nat.le_of_ble_eq_true rfl) d_SC_init_8 (fun w8 H jP jD jS => ?_)
  have jP : va_P D classes [(g, .inr (3, [.null, .null, .null, .null, .null, .null, .null, .int (iZ 0)])), (w8, .inl (cI, 256, .inl (zA (fun _ => 0))))] H := jP
  have jD : va_D A [(g, .inr (3, [.null, .null, .null, .null, .null, .null, .null, .int (iZ 0)])), (w8, .inl (cI, 256, .inl (zA (fun _ => 0))))] := jD
  refine va_putF (D := D) (ci := 3) (v := .ref w8) (ty := (.array .int)) (C := R_SC) (T := F_SC) (N := 8) jx jb jts i_SC t_SC t_SC_ok n_SC jown jK.1 jP jD jS 0 rfl rfl 0 (by decide) (jts _ fl_SC_9) (fun _ h9 => h9) rfl jmn rfl (by decide +kernel) rfl rfl (Nat.le_of_ble_eq_true rfl) d_SC_init_10 (fun H locs jP jD jS => ?_)
  have jP : va_P D classes [(g, .inr (3, [.ref w8, .null, .null, .null, .null, .null, .null, .int (iZ 0)])), (w8, .inl (cI, 256, .inl (zA (fun _ => 0))))] H := jP
  have jD : va_D A [(g, .inr (3, [.ref w8, .null, .null, .null, .null, .null, .null, .int (iZ 0)])), (w8, .inl (cI, 256, .inl (zA (fun _ => 0))))] := jD
  refine lv_aload_n jx jb d_SC_init_13 rfl (lv_at jl 0 rfl) ?_
  refine lv_sipush (v := iZ 256) jx jb d_SC_init_14 (by decide) ?_
  refine z_newa jx jb (jts _ ac_int) rfl rfl rfl jK.1 jP jD jS jA 0 rfl 256 ⟨rfl, by decide⟩ (Nat.le_of_ble_eq_true rfl) (Nat.le_of_ble_eq_true rfl) d_SC_init_17 (fun w17 H jP jD jS => ?_)
  have jP : va_P D classes [(g, .inr (3, [.ref w8, .null, .null, .null, .null, .null, .null, .int (iZ 0)])), (w8, .inl (cI, 256, .inl (zA (fun _ => 0)))), (w17, .inl (cI, 256, .inl (zA (fun _ => 0))))] H := jP
  have jD : va_D A [(g, .inr (3, [.ref w8, .null, .null, .null, .null, .null, .null, .int (iZ 0)])), (w8, .inl (cI, 256, .inl (zA (fun _ => 0)))), (w17, .inl (cI, 256, .inl (zA (fun _ => 0))))] := jD
  refine va_putF (D := D) (ci := 3) (v := .ref w17) (ty := (.array .int)) (C := R_SC) (T := F_SC) (N := 8) jx jb jts i_SC t_SC t_SC_ok n_SC jown jK.1 jP jD jS 0 rfl rfl 1 (by decide) (jts _ fl_SC_13) (fun _ h9 => h9) rfl jmn rfl (by decide +kernel) rfl rfl (Nat.le_of_ble_eq_true rfl) d_SC_init_19 (fun H locs jP jD jS => ?_)
  have jP : va_P D classes [(g, .inr (3, [.ref w8, .ref w17, .null, .null, .null, .null, .null, .int (iZ 0)])), (w8, .inl (cI, 256, .inl (zA (fun _ => 0)))), (w17, .inl (cI, 256, .inl (zA (fun _ => 0))))] H := jP
  have jD : va_D A [(g, .inr (3, [.ref w8, .ref w17, .null, .null, .null, .null, .null, .int (iZ 0)])), (w8, .inl (cI, 256, .inl (zA (fun _ => 0)))), (w17, .inl (cI, 256, .inl (zA (fun _ => 0))))] := jD
  refine lv_aload_n jx jb d_SC_init_22 rfl (lv_at jl 0 rfl) ?_
  refine va_new (ci := 0) (fs := [.null, .int (iZ 0), .int (iZ 0), .int (iZ 0), .int (iZ 0), .int (iZ 0), .int (iZ 0)]) (C := R_Row) (T := F_Row) (N := 7) jx jb jts i_Row t_Row t_Row_ok jown (jts _ cl_SC_16) (jts _ is_Row) (jts _ in_Row) jK.1 jP jD jS jA rfl (fun j hj => by rcases (show j = 0 ∨ j = 1 ∨ j = 2 ∨ j = 3 ∨ j = 4 ∨ j = 5 ∨ j = 6 by omega) with rfl | rfl | rfl | rfl | rfl | rfl | rfl <;> rfl) (Nat.le_of_ble_eq_true rfl) (Nat.le_of_ble_eq_true rfl) d_SC_init_23 (fun w23 H jP jD jS => ?_)
  have jP : va_P D classes [(g, .inr (3, [.ref w8, .ref w17, .null, .null, .null, .null, .null, .int (iZ 0)])), (w8, .inl (cI, 256, .inl (zA (fun _ => 0)))), (w17, .inl (cI, 256, .inl (zA (fun _ => 0)))), (w23, .inr (0, [.null, .int (iZ 0), .int (iZ 0), .int (iZ 0), .int (iZ 0), .int (iZ 0), .int (iZ 0)]))] H := jP
  have jD : va_D A [(g, .inr (3, [.ref w8, .ref w17, .null, .null, .null, .null, .null, .int (iZ 0)])), (w8, .inl (cI, 256, .inl (zA (fun _ => 0)))), (w17, .inl (cI, 256, .inl (zA (fun _ => 0)))), (w23, .inr (0, [.null, .int (iZ 0), .int (iZ 0), .int (iZ 0), .int (iZ 0), .int (iZ 0), .int (iZ 0)]))] := jD
  refine lv_dup jx jb d_SC_init_26 rfl ?_
  refine z_backv (wr := [(g, .inr (3, [.ref w8, .ref w17, .null, .null, .null, .null, .null, .int (iZ 0)])), (w8, .inl (cI, 256, .inl (zA (fun _ => 0)))), (w17, .inl (cI, 256, .inl (zA (fun _ => 0))))]) jP jD jS jA [3] [0, 1, 2] rfl rfl (by decide) (by decide) (va_runIN (As := []) (rest := [.ref w23, .ref g]) ⟨jx, jb, jml, jown, jts⟩ (c_Row_init l D cI cB cZ H.size w23) (zc_IN 0 jts cd_Row_init (jK.nest ln_SC_18 rfl) im_Row_init in_Row rfl hd_Row_init ⟨Nat.le_of_ble_eq_true rfl, Nat.le_of_ble_eq_true rfl⟩ rfl rfl) (z_preS jK jP jD [3] (by decide) rfl rfl) rfl rfl jl.1 rfl (lv_room (Nat.le_of_ble_eq_true rfl)) d_SC_init_27 ⟨Nat.le_of_ble_eq_true rfl, Nat.le_of_ble_eq_true rfl⟩) (fun u27 H locs hu27 jP jD jS => ?_)
  obtain ⟨q1_27, rfl⟩ : ∃ z, z = u27 := ⟨_, rfl⟩
  have jP : va_P D classes [(g, .inr (3, [.ref w8, .ref w17, .null, .null, .null, .null, .null, .int (iZ 0)])), (w8, .inl (cI, 256, .inl (zA (fun _ => 0)))), (w17, .inl (cI, 256, .inl (zA (fun _ => 0)))), (w23, .inr (0, [.ref q1_27, .int (iZ 0), .int (iZ 0), .int (iZ 0), .int (iZ 0), .int (iZ 0), .int (iZ 0)])), (q1_27, .inl (cB, 6000, .inl (zA (fun _ => 0))))] H := jP.sub [0, 1, 2, 3, 4] rfl
  have jD : va_D A [(g, .inr (3, [.ref w8, .ref w17, .null, .null, .null, .null, .null, .int (iZ 0)])), (w8, .inl (cI, 256, .inl (zA (fun _ => 0)))), (w17, .inl (cI, 256, .inl (zA (fun _ => 0)))), (w23, .inr (0, [.ref q1_27, .int (iZ 0), .int (iZ 0), .int (iZ 0), .int (iZ 0), .int (iZ 0), .int (iZ 0)])), (q1_27, .inl (cB, 6000, .inl (zA (fun _ => 0))))] := jD.sub [0, 1, 2, 3, 4] (by decide) rfl
  refine va_putF (D := D) (ci := 3) (v := .ref w23) (ty := (.object "StateCoder$Row")) (C := R_SC) (T := F_SC) (N := 8) jx jb jts i_SC t_SC t_SC_ok n_SC jown jK.1 jP jD jS 0 rfl rfl 2 (by decide) (jts _ fl_SC_19) (fun _ h9 => h9) rfl jmn rfl (by decide +kernel) rfl rfl (Nat.le_of_ble_eq_true rfl) d_SC_init_30 (fun H locs jP jD jS => ?_)
  have jP : va_P D classes [(g, .inr (3, [.ref w8, .ref w17, .ref w23, .null, .null, .null, .null, .int (iZ 0)])), (w8, .inl (cI, 256, .inl (zA (fun _ => 0)))), (w17, .inl (cI, 256, .inl (zA (fun _ => 0)))), (w23, .inr (0, [.ref q1_27, .int (iZ 0), .int (iZ 0), .int (iZ 0), .int (iZ 0), .int (iZ 0), .int (iZ 0)])), (q1_27, .inl (cB, 6000, .inl (zA (fun _ => 0))))] H := jP
  have jD : va_D A [(g, .inr (3, [.ref w8, .ref w17, .ref w23, .null, .null, .null, .null, .int (iZ 0)])), (w8, .inl (cI, 256, .inl (zA (fun _ => 0)))), (w17, .inl (cI, 256, .inl (zA (fun _ => 0)))), (w23, .inr (0, [.ref q1_27, .int (iZ 0), .int (iZ 0), .int (iZ 0), .int (iZ 0), .int (iZ 0), .int (iZ 0)])), (q1_27, .inl (cB, 6000, .inl (zA (fun _ => 0))))] := jD
  refine lv_aload_n jx jb d_SC_init_33 rfl (lv_at jl 0 rfl) ?_
  refine va_new (ci := 1) (fs := [.null, .null, .null, .null, .null, .null, .null, .int (iZ 0)]) (C := R_Share) (T := F_Share) (N := 8) jx jb jts i_Share t_Share t_Share_ok jown (jts _ cl_SC_23) (jts _ is_Share) (jts _ in_Share) jK.1 jP jD jS jA rfl (fun j hj => by rcases (show j = 0 ∨ j = 1 ∨ j = 2 ∨ j = 3 ∨ j = 4 ∨ j = 5 ∨ j = 6 ∨ j = 7 by omega) with rfl | rfl | rfl | rfl | rfl | rfl | rfl | rfl <;> rfl) (Nat.le_of_ble_eq_true rfl) (Nat.le_of_ble_eq_true rfl) d_SC_init_34 (fun w34 H jP jD jS => ?_)
  have jP : va_P D classes [(g, .inr (3, [.ref w8, .ref w17, .ref w23, .null, .null, .null, .null, .int (iZ 0)])), (w8, .inl (cI, 256, .inl (zA (fun _ => 0)))), (w17, .inl (cI, 256, .inl (zA (fun _ => 0)))), (w23, .inr (0, [.ref q1_27, .int (iZ 0), .int (iZ 0), .int (iZ 0), .int (iZ 0), .int (iZ 0), .int (iZ 0)])), (q1_27, .inl (cB, 6000, .inl (zA (fun _ => 0)))), (w34, .inr (1, [.null, .null, .null, .null, .null, .null, .null, .int (iZ 0)]))] H := jP
  have jD : va_D A [(g, .inr (3, [.ref w8, .ref w17, .ref w23, .null, .null, .null, .null, .int (iZ 0)])), (w8, .inl (cI, 256, .inl (zA (fun _ => 0)))), (w17, .inl (cI, 256, .inl (zA (fun _ => 0)))), (w23, .inr (0, [.ref q1_27, .int (iZ 0), .int (iZ 0), .int (iZ 0), .int (iZ 0), .int (iZ 0), .int (iZ 0)])), (q1_27, .inl (cB, 6000, .inl (zA (fun _ => 0)))), (w34, .inr (1, [.null, .null, .null, .null, .null, .null, .null, .int (iZ 0)]))] := jD
  refine lv_dup jx jb d_SC_init_37 rfl ?_
  refine z_backv (wr := [(g, .inr (3, [.ref w8, .ref w17, .ref w23, .null, .null, .null, .null, .int (iZ 0)])), (w8, .inl (cI, 256, .inl (zA (fun _ => 0)))), (w17, .inl (cI, 256, .inl (zA (fun _ => 0)))), (w23, .inr (0, [.ref q1_27, .int (iZ 0), .int (iZ 0), .int (iZ 0), .int (iZ 0), .int (iZ 0), .int (iZ 0)])), (q1_27, .inl (cB, 6000, .inl (zA (fun _ => 0))))]) jP jD jS jA [5] [0, 1, 2, 3, 4] rfl rfl (by decide) (by decide) (va_runIN (As := []) (rest := [.ref w34, .ref g]) ⟨jx, jb, jml, jown, jts⟩ (c_Share_init l D cI cB cZ H.size w34) (zc_IN 0 jts cd_Share_init (jK.nest ln_SC_25 rfl) im_Share_init in_Share rfl hd_Share_init ⟨Nat.le_of_ble_eq_true rfl, Nat.le_of_ble_eq_true rfl⟩ rfl rfl) (z_preS jK jP jD [5] (by decide) rfl rfl) rfl rfl jl.1 rfl (lv_room (Nat.le_of_ble_eq_true rfl)) d_SC_init_38 ⟨Nat.le_of_ble_eq_true rfl, Nat.le_of_ble_eq_true rfl⟩) (fun u38 H locs hu38 jP jD jS => ?_)
  obtain ⟨s1_38, s2_38, s3_38, s4_38, s5_38, s6_38, s7_38⟩ := u38
  have jP : va_P D classes [(g, .inr (3, [.ref w8, .ref w17, .ref w23, .null, .null, .null, .null, .int (iZ 0)])), (w8, .inl (cI, 256, .inl (zA (fun _ => 0)))), (w17, .inl (cI, 256, .inl (zA (fun _ => 0)))), (w23, .inr (0, [.ref q1_27, .int (iZ 0), .int (iZ 0), .int (iZ 0), .int (iZ 0), .int (iZ 0), .int (iZ 0)])), (q1_27, .inl (cB, 6000, .inl (zA (fun _ => 0)))), (w34, .inr (1, [.ref s1_38, .ref s2_38, .ref s3_38, .ref s4_38, .ref s5_38, .ref s6_38, .ref s7_38, .int (iZ 0)])), (s1_38, .inl (cI, 256, .inl (zA (fun _ => 0)))), (s2_38, .inl (cI, 4096, .inl (zA (fun _ => 0)))), (s3_38, .inl (cI, 4096, .inl (zA (fun _ => 0)))), (s4_38, .inl (cI, 4096, .inl (zA (fun _ => 0)))), (s5_38, .inl (cI, 4096, .inl (zA (fun _ => 0)))), (s6_38, .inl (cI, 256, .inl (zA (fun _ => 0)))), (s7_38, .inl (cI, 256, .inl (zA (fun _ => 0))))] H := jP.sub [0, 1, 2, 3, 4, 5, 6, 7, 8, 9, 10, 11, 12] rfl
  have jD : va_D A [(g, .inr (3, [.ref w8, .ref w17, .ref w23, .null, .null, .null, .null, .int (iZ 0)])), (w8, .inl (cI, 256, .inl (zA (fun _ => 0)))), (w17, .inl (cI, 256, .inl (zA (fun _ => 0)))), (w23, .inr (0, [.ref q1_27, .int (iZ 0), .int (iZ 0), .int (iZ 0), .int (iZ 0), .int (iZ 0), .int (iZ 0)])), (q1_27, .inl (cB, 6000, .inl (zA (fun _ => 0)))), (w34, .inr (1, [.ref s1_38, .ref s2_38, .ref s3_38, .ref s4_38, .ref s5_38, .ref s6_38, .ref s7_38, .int (iZ 0)])), (s1_38, .inl (cI, 256, .inl (zA (fun _ => 0)))), (s2_38, .inl (cI, 4096, .inl (zA (fun _ => 0)))), (s3_38, .inl (cI, 4096, .inl (zA (fun _ => 0)))), (s4_38, .inl (cI, 4096, .inl (zA (fun _ => 0)))), (s5_38, .inl (cI, 4096, .inl (zA (fun _ => 0)))), (s6_38, .inl (cI, 256, .inl (zA (fun _ => 0)))), (s7_38, .inl (cI, 256, .inl (zA (fun _ => 0))))] := jD.sub [0, 1, 2, 3, 4, 5, 6, 7, 8, 9, 10, 11, 12] (by decide) rfl
  refine va_putF (D := D) (ci := 3) (v := .ref w34) (ty := (.object "StateCoder$Share")) (C := R_SC) (T := F_SC) (N := 8) jx jb jts i_SC t_SC t_SC_ok n_SC jown jK.1 jP jD jS 0 rfl rfl 3 (by decide) (jts _ fl_SC_26) (fun _ h9 => h9) rfl jmn rfl (by decide +kernel) rfl rfl (Nat.le_of_ble_eq_true rfl) d_SC_init_41 (fun H locs jP jD jS => ?_)
  have jP : va_P D classes [(g, .inr (3, [.ref w8, .ref w17, .ref w23, .ref w34, .null, .null, .null, .int (iZ 0)])), (w8, .inl (cI, 256, .inl (zA (fun _ => 0)))), (w17, .inl (cI, 256, .inl (zA (fun _ => 0)))), (w23, .inr (0, [.ref q1_27, .int (iZ 0), .int (iZ 0), .int (iZ 0), .int (iZ 0), .int (iZ 0), .int (iZ 0)])), (q1_27, .inl (cB, 6000, .inl (zA (fun _ => 0)))), (w34, .inr (1, [.ref s1_38, .ref s2_38, .ref s3_38, .ref s4_38, .ref s5_38, .ref s6_38, .ref s7_38, .int (iZ 0)])), (s1_38, .inl (cI, 256, .inl (zA (fun _ => 0)))), (s2_38, .inl (cI, 4096, .inl (zA (fun _ => 0)))), (s3_38, .inl (cI, 4096, .inl (zA (fun _ => 0)))), (s4_38, .inl (cI, 4096, .inl (zA (fun _ => 0)))), (s5_38, .inl (cI, 4096, .inl (zA (fun _ => 0)))), (s6_38, .inl (cI, 256, .inl (zA (fun _ => 0)))), (s7_38, .inl (cI, 256, .inl (zA (fun _ => 0))))] H := jP
  have jD : va_D A [(g, .inr (3, [.ref w8, .ref w17, .ref w23, .ref w34, .null, .null, .null, .int (iZ 0)])), (w8, .inl (cI, 256, .inl (zA (fun _ => 0)))), (w17, .inl (cI, 256, .inl (zA (fun _ => 0)))), (w23, .inr (0, [.ref q1_27, .int (iZ 0), .int (iZ 0), .int (iZ 0), .int (iZ 0), .int (iZ 0), .int (iZ 0)])), (q1_27, .inl (cB, 6000, .inl (zA (fun _ => 0)))), (w34, .inr (1, [.ref s1_38, .ref s2_38, .ref s3_38, .ref s4_38, .ref s5_38, .ref s6_38, .ref s7_38, .int (iZ 0)])), (s1_38, .inl (cI, 256, .inl (zA (fun _ => 0)))), (s2_38, .inl (cI, 4096, .inl (zA (fun _ => 0)))), (s3_38, .inl (cI, 4096, .inl (zA (fun _ => 0)))), (s4_38, .inl (cI, 4096, .inl (zA (fun _ => 0)))), (s5_38, .inl (cI, 4096, .inl (zA (fun _ => 0)))), (s6_38, .inl (cI, 256, .inl (zA (fun _ => 0)))), (s7_38, .inl (cI, 256, .inl (zA (fun _ => 0))))] := jD
  refine lv_aload_n jx jb d_SC_init_44 rfl (lv_at jl 0 rfl) ?_
  refine va_new (ci := 2) (fs := [.null, .null, .int (iZ 0)]) (C := R_CountsRule) (T := F_CountsRule) (N := 3) jx jb jts i_CountsRule t_CountsRule t_CountsRule_ok jown (jts _ cl_SC_30) (jts _ is_CountsRule) (jts _ in_CountsRule) jK.1 jP jD jS jA rfl (fun j hj => by rcases (show j = 0 ∨ j = 1 ∨ j = 2 by omega) with rfl | rfl | rfl <;> rfl) (Nat.le_of_ble_eq_true rfl) (Nat.le_of_ble_eq_true rfl) d_SC_init_45 (fun w45 H jP jD jS => ?_)
  have jP : va_P D classes [(g, .inr (3, [.ref w8, .ref w17, .ref w23, .ref w34, .null, .null, .null, .int (iZ 0)])), (w8, .inl (cI, 256, .inl (zA (fun _ => 0)))), (w17, .inl (cI, 256, .inl (zA (fun _ => 0)))), (w23, .inr (0, [.ref q1_27, .int (iZ 0), .int (iZ 0), .int (iZ 0), .int (iZ 0), .int (iZ 0), .int (iZ 0)])), (q1_27, .inl (cB, 6000, .inl (zA (fun _ => 0)))), (w34, .inr (1, [.ref s1_38, .ref s2_38, .ref s3_38, .ref s4_38, .ref s5_38, .ref s6_38, .ref s7_38, .int (iZ 0)])), (s1_38, .inl (cI, 256, .inl (zA (fun _ => 0)))), (s2_38, .inl (cI, 4096, .inl (zA (fun _ => 0)))), (s3_38, .inl (cI, 4096, .inl (zA (fun _ => 0)))), (s4_38, .inl (cI, 4096, .inl (zA (fun _ => 0)))), (s5_38, .inl (cI, 4096, .inl (zA (fun _ => 0)))), (s6_38, .inl (cI, 256, .inl (zA (fun _ => 0)))), (s7_38, .inl (cI, 256, .inl (zA (fun _ => 0)))), (w45, .inr (2, [.null, .null, .int (iZ 0)]))] H := jP
  have jD : va_D A [(g, .inr (3, [.ref w8, .ref w17, .ref w23, .ref w34, .null, .null, .null, .int (iZ 0)])), (w8, .inl (cI, 256, .inl (zA (fun _ => 0)))), (w17, .inl (cI, 256, .inl (zA (fun _ => 0)))), (w23, .inr (0, [.ref q1_27, .int (iZ 0), .int (iZ 0), .int (iZ 0), .int (iZ 0), .int (iZ 0), .int (iZ 0)])), (q1_27, .inl (cB, 6000, .inl (zA (fun _ => 0)))), (w34, .inr (1, [.ref s1_38, .ref s2_38, .ref s3_38, .ref s4_38, .ref s5_38, .ref s6_38, .ref s7_38, .int (iZ 0)])), (s1_38, .inl (cI, 256, .inl (zA (fun _ => 0)))), (s2_38, .inl (cI, 4096, .inl (zA (fun _ => 0)))), (s3_38, .inl (cI, 4096, .inl (zA (fun _ => 0)))), (s4_38, .inl (cI, 4096, .inl (zA (fun _ => 0)))), (s5_38, .inl (cI, 4096, .inl (zA (fun _ => 0)))), (s6_38, .inl (cI, 256, .inl (zA (fun _ => 0)))), (s7_38, .inl (cI, 256, .inl (zA (fun _ => 0)))), (w45, .inr (2, [.null, .null, .int (iZ 0)]))] := jD
  refine lv_dup jx jb d_SC_init_48 rfl ?_
  refine z_backv (wr := [(g, .inr (3, [.ref w8, .ref w17, .ref w23, .ref w34, .null, .null, .null, .int (iZ 0)])), (w8, .inl (cI, 256, .inl (zA (fun _ => 0)))), (w17, .inl (cI, 256, .inl (zA (fun _ => 0)))), (w23, .inr (0, [.ref q1_27, .int (iZ 0), .int (iZ 0), .int (iZ 0), .int (iZ 0), .int (iZ 0), .int (iZ 0)])), (q1_27, .inl (cB, 6000, .inl (zA (fun _ => 0)))), (w34, .inr (1, [.ref s1_38, .ref s2_38, .ref s3_38, .ref s4_38, .ref s5_38, .ref s6_38, .ref s7_38, .int (iZ 0)])), (s1_38, .inl (cI, 256, .inl (zA (fun _ => 0)))), (s2_38, .inl (cI, 4096, .inl (zA (fun _ => 0)))), (s3_38, .inl (cI, 4096, .inl (zA (fun _ => 0)))), (s4_38, .inl (cI, 4096, .inl (zA (fun _ => 0)))), (s5_38, .inl (cI, 4096, .inl (zA (fun _ => 0)))), (s6_38, .inl (cI, 256, .inl (zA (fun _ => 0)))), (s7_38, .inl (cI, 256, .inl (zA (fun _ => 0))))]) jP jD jS jA [13] [0, 1, 2, 3, 4, 5, 6, 7, 8, 9, 10, 11, 12] rfl rfl (by decide) (by decide) (va_runIN (As := []) (rest := [.ref w45, .ref g]) ⟨jx, jb, jml, jown, jts⟩ (c_Rule_init l D cI cB cZ H.size w45) (zc_IN 0 jts cd_CountsRule_init (jK.nest ln_SC_32 rfl) im_CountsRule_init in_CountsRule rfl hd_CountsRule_init ⟨Nat.le_of_ble_eq_true rfl, Nat.le_of_ble_eq_true rfl⟩ rfl rfl) (z_preS jK jP jD [13] (by decide) rfl rfl) rfl rfl jl.1 rfl (lv_room (Nat.le_of_ble_eq_true rfl)) d_SC_init_49 ⟨Nat.le_of_ble_eq_true rfl, Nat.le_of_ble_eq_true rfl⟩) (fun u49 H locs hu49 jP jD jS => ?_)
  obtain ⟨s1_49, s2_49⟩ := u49
  have jP : va_P D classes [(g, .inr (3, [.ref w8, .ref w17, .ref w23, .ref w34, .null, .null, .null, .int (iZ 0)])), (w8, .inl (cI, 256, .inl (zA (fun _ => 0)))), (w17, .inl (cI, 256, .inl (zA (fun _ => 0)))), (w23, .inr (0, [.ref q1_27, .int (iZ 0), .int (iZ 0), .int (iZ 0), .int (iZ 0), .int (iZ 0), .int (iZ 0)])), (q1_27, .inl (cB, 6000, .inl (zA (fun _ => 0)))), (w34, .inr (1, [.ref s1_38, .ref s2_38, .ref s3_38, .ref s4_38, .ref s5_38, .ref s6_38, .ref s7_38, .int (iZ 0)])), (s1_38, .inl (cI, 256, .inl (zA (fun _ => 0)))), (s2_38, .inl (cI, 4096, .inl (zA (fun _ => 0)))), (s3_38, .inl (cI, 4096, .inl (zA (fun _ => 0)))), (s4_38, .inl (cI, 4096, .inl (zA (fun _ => 0)))), (s5_38, .inl (cI, 4096, .inl (zA (fun _ => 0)))), (s6_38, .inl (cI, 256, .inl (zA (fun _ => 0)))), (s7_38, .inl (cI, 256, .inl (zA (fun _ => 0)))), (w45, .inr (2, [.ref s1_49, .ref s2_49, .int (iZ 0)])), (s1_49, .inl (cI, 256, .inl (zA (fun _ => 0)))), (s2_49, .inl (cI, 256, .inl (zA (fun _ => 0))))] H := jP.sub [0, 1, 2, 3, 4, 5, 6, 7, 8, 9, 10, 11, 12, 13, 14, 15] rfl
  have jD : va_D A [(g, .inr (3, [.ref w8, .ref w17, .ref w23, .ref w34, .null, .null, .null, .int (iZ 0)])), (w8, .inl (cI, 256, .inl (zA (fun _ => 0)))), (w17, .inl (cI, 256, .inl (zA (fun _ => 0)))), (w23, .inr (0, [.ref q1_27, .int (iZ 0), .int (iZ 0), .int (iZ 0), .int (iZ 0), .int (iZ 0), .int (iZ 0)])), (q1_27, .inl (cB, 6000, .inl (zA (fun _ => 0)))), (w34, .inr (1, [.ref s1_38, .ref s2_38, .ref s3_38, .ref s4_38, .ref s5_38, .ref s6_38, .ref s7_38, .int (iZ 0)])), (s1_38, .inl (cI, 256, .inl (zA (fun _ => 0)))), (s2_38, .inl (cI, 4096, .inl (zA (fun _ => 0)))), (s3_38, .inl (cI, 4096, .inl (zA (fun _ => 0)))), (s4_38, .inl (cI, 4096, .inl (zA (fun _ => 0)))), (s5_38, .inl (cI, 4096, .inl (zA (fun _ => 0)))), (s6_38, .inl (cI, 256, .inl (zA (fun _ => 0)))), (s7_38, .inl (cI, 256, .inl (zA (fun _ => 0)))), (w45, .inr (2, [.ref s1_49, .ref s2_49, .int (iZ 0)])), (s1_49, .inl (cI, 256, .inl (zA (fun _ => 0)))), (s2_49, .inl (cI, 256, .inl (zA (fun _ => 0))))] := jD.sub [0, 1, 2, 3, 4, 5, 6, 7, 8, 9, 10, 11, 12, 13, 14, 15] (by decide) rfl
  refine va_putF (D := D) (ci := 3) (v := .ref w45) (ty := (.object "StateCoder$CountsRule")) (C := R_SC) (T := F_SC) (N := 8) jx jb jts i_SC t_SC t_SC_ok n_SC jown jK.1 jP jD jS 0 rfl rfl 4 (by decide) (jts _ fl_SC_33) (fun _ h9 => h9) rfl jmn rfl (by decide +kernel) rfl rfl (Nat.le_of_ble_eq_true rfl) d_SC_init_52 (fun H locs jP jD jS => ?_)
  have jP : va_P D classes [(g, .inr (3, [.ref w8, .ref w17, .ref w23, .ref w34, .ref w45, .null, .null, .int (iZ 0)])), (w8, .inl (cI, 256, .inl (zA (fun _ => 0)))), (w17, .inl (cI, 256, .inl (zA (fun _ => 0)))), (w23, .inr (0, [.ref q1_27, .int (iZ 0), .int (iZ 0), .int (iZ 0), .int (iZ 0), .int (iZ 0), .int (iZ 0)])), (q1_27, .inl (cB, 6000, .inl (zA (fun _ => 0)))), (w34, .inr (1, [.ref s1_38, .ref s2_38, .ref s3_38, .ref s4_38, .ref s5_38, .ref s6_38, .ref s7_38, .int (iZ 0)])), (s1_38, .inl (cI, 256, .inl (zA (fun _ => 0)))), (s2_38, .inl (cI, 4096, .inl (zA (fun _ => 0)))), (s3_38, .inl (cI, 4096, .inl (zA (fun _ => 0)))), (s4_38, .inl (cI, 4096, .inl (zA (fun _ => 0)))), (s5_38, .inl (cI, 4096, .inl (zA (fun _ => 0)))), (s6_38, .inl (cI, 256, .inl (zA (fun _ => 0)))), (s7_38, .inl (cI, 256, .inl (zA (fun _ => 0)))), (w45, .inr (2, [.ref s1_49, .ref s2_49, .int (iZ 0)])), (s1_49, .inl (cI, 256, .inl (zA (fun _ => 0)))), (s2_49, .inl (cI, 256, .inl (zA (fun _ => 0))))] H := jP
  have jD : va_D A [(g, .inr (3, [.ref w8, .ref w17, .ref w23, .ref w34, .ref w45, .null, .null, .int (iZ 0)])), (w8, .inl (cI, 256, .inl (zA (fun _ => 0)))), (w17, .inl (cI, 256, .inl (zA (fun _ => 0)))), (w23, .inr (0, [.ref q1_27, .int (iZ 0), .int (iZ 0), .int (iZ 0), .int (iZ 0), .int (iZ 0), .int (iZ 0)])), (q1_27, .inl (cB, 6000, .inl (zA (fun _ => 0)))), (w34, .inr (1, [.ref s1_38, .ref s2_38, .ref s3_38, .ref s4_38, .ref s5_38, .ref s6_38, .ref s7_38, .int (iZ 0)])), (s1_38, .inl (cI, 256, .inl (zA (fun _ => 0)))), (s2_38, .inl (cI, 4096, .inl (zA (fun _ => 0)))), (s3_38, .inl (cI, 4096, .inl (zA (fun _ => 0)))), (s4_38, .inl (cI, 4096, .inl (zA (fun _ => 0)))), (s5_38, .inl (cI, 4096, .inl (zA (fun _ => 0)))), (s6_38, .inl (cI, 256, .inl (zA (fun _ => 0)))), (s7_38, .inl (cI, 256, .inl (zA (fun _ => 0)))), (w45, .inr (2, [.ref s1_49, .ref s2_49, .int (iZ 0)])), (s1_49, .inl (cI, 256, .inl (zA (fun _ => 0)))), (s2_49, .inl (cI, 256, .inl (zA (fun _ => 0))))] := jD
  refine lv_aload_n jx jb d_SC_init_55 rfl (lv_at jl 0 rfl) ?_
  refine va_new (ci := 0) (fs := [.null, .int (iZ 0), .int (iZ 0), .int (iZ 0), .int (iZ 0), .int (iZ 0), .int (iZ 0)]) (C := R_Row) (T := F_Row) (N := 7) jx jb jts i_Row t_Row t_Row_ok jown (jts _ cl_SC_16) (jts _ is_Row) (jts _ in_Row) jK.1 jP jD jS jA rfl (fun j hj => by rcases (show j = 0 ∨ j = 1 ∨ j = 2 ∨ j = 3 ∨ j = 4 ∨ j = 5 ∨ j = 6 by omega) with rfl | rfl | rfl | rfl | rfl | rfl | rfl <;> rfl) (Nat.le_of_ble_eq_true rfl) (Nat.le_of_ble_eq_true rfl) d_SC_init_56 (fun w56 H jP jD jS => ?_)
  have jP : va_P D classes [(g, .inr (3, [.ref w8, .ref w17, .ref w23, .ref w34, .ref w45, .null, .null, .int (iZ 0)])), (w8, .inl (cI, 256, .inl (zA (fun _ => 0)))), (w17, .inl (cI, 256, .inl (zA (fun _ => 0)))), (w23, .inr (0, [.ref q1_27, .int (iZ 0), .int (iZ 0), .int (iZ 0), .int (iZ 0), .int (iZ 0), .int (iZ 0)])), (q1_27, .inl (cB, 6000, .inl (zA (fun _ => 0)))), (w34, .inr (1, [.ref s1_38, .ref s2_38, .ref s3_38, .ref s4_38, .ref s5_38, .ref s6_38, .ref s7_38, .int (iZ 0)])), (s1_38, .inl (cI, 256, .inl (zA (fun _ => 0)))), (s2_38, .inl (cI, 4096, .inl (zA (fun _ => 0)))), (s3_38, .inl (cI, 4096, .inl (zA (fun _ => 0)))), (s4_38, .inl (cI, 4096, .inl (zA (fun _ => 0)))), (s5_38, .inl (cI, 4096, .inl (zA (fun _ => 0)))), (s6_38, .inl (cI, 256, .inl (zA (fun _ => 0)))), (s7_38, .inl (cI, 256, .inl (zA (fun _ => 0)))), (w45, .inr (2, [.ref s1_49, .ref s2_49, .int (iZ 0)])), (s1_49, .inl (cI, 256, .inl (zA (fun _ => 0)))), (s2_49, .inl (cI, 256, .inl (zA (fun _ => 0)))), (w56, .inr (0, [.null, .int (iZ 0), .int (iZ 0), .int (iZ 0), .int (iZ 0), .int (iZ 0), .int (iZ 0)]))] H := jP
  have jD : va_D A [(g, .inr (3, [.ref w8, .ref w17, .ref w23, .ref w34, .ref w45, .null, .null, .int (iZ 0)])), (w8, .inl (cI, 256, .inl (zA (fun _ => 0)))), (w17, .inl (cI, 256, .inl (zA (fun _ => 0)))), (w23, .inr (0, [.ref q1_27, .int (iZ 0), .int (iZ 0), .int (iZ 0), .int (iZ 0), .int (iZ 0), .int (iZ 0)])), (q1_27, .inl (cB, 6000, .inl (zA (fun _ => 0)))), (w34, .inr (1, [.ref s1_38, .ref s2_38, .ref s3_38, .ref s4_38, .ref s5_38, .ref s6_38, .ref s7_38, .int (iZ 0)])), (s1_38, .inl (cI, 256, .inl (zA (fun _ => 0)))), (s2_38, .inl (cI, 4096, .inl (zA (fun _ => 0)))), (s3_38, .inl (cI, 4096, .inl (zA (fun _ => 0)))), (s4_38, .inl (cI, 4096, .inl (zA (fun _ => 0)))), (s5_38, .inl (cI, 4096, .inl (zA (fun _ => 0)))), (s6_38, .inl (cI, 256, .inl (zA (fun _ => 0)))), (s7_38, .inl (cI, 256, .inl (zA (fun _ => 0)))), (w45, .inr (2, [.ref s1_49, .ref s2_49, .int (iZ 0)])), (s1_49, .inl (cI, 256, .inl (zA (fun _ => 0)))), (s2_49, .inl (cI, 256, .inl (zA (fun _ => 0)))), (w56, .inr (0, [.null, .int (iZ 0), .int (iZ 0), .int (iZ 0), .int (iZ 0), .int (iZ 0), .int (iZ 0)]))] := jD
  refine lv_dup jx jb d_SC_init_59 rfl ?_
  refine z_backv (wr := [(g, .inr (3, [.ref w8, .ref w17, .ref w23, .ref w34, .ref w45, .null, .null, .int (iZ 0)])), (w8, .inl (cI, 256, .inl (zA (fun _ => 0)))), (w17, .inl (cI, 256, .inl (zA (fun _ => 0)))), (w23, .inr (0, [.ref q1_27, .int (iZ 0), .int (iZ 0), .int (iZ 0), .int (iZ 0), .int (iZ 0), .int (iZ 0)])), (q1_27, .inl (cB, 6000, .inl (zA (fun _ => 0)))), (w34, .inr (1, [.ref s1_38, .ref s2_38, .ref s3_38, .ref s4_38, .ref s5_38, .ref s6_38, .ref s7_38, .int (iZ 0)])), (s1_38, .inl (cI, 256, .inl (zA (fun _ => 0)))), (s2_38, .inl (cI, 4096, .inl (zA (fun _ => 0)))), (s3_38, .inl (cI, 4096, .inl (zA (fun _ => 0)))), (s4_38, .inl (cI, 4096, .inl (zA (fun _ => 0)))), (s5_38, .inl (cI, 4096, .inl (zA (fun _ => 0)))), (s6_38, .inl (cI, 256, .inl (zA (fun _ => 0)))), (s7_38, .inl (cI, 256, .inl (zA (fun _ => 0)))), (w45, .inr (2, [.ref s1_49, .ref s2_49, .int (iZ 0)])), (s1_49, .inl (cI, 256, .inl (zA (fun _ => 0)))), (s2_49, .inl (cI, 256, .inl (zA (fun _ => 0))))]) jP jD jS jA [16] [0, 1, 2, 3, 4, 5, 6, 7, 8, 9, 10, 11, 12, 13, 14, 15] rfl rfl (by decide) (by decide) (va_runIN (As := []) (rest := [.ref w56, .ref g]) ⟨jx, jb, jml, jown, jts⟩ (c_Row_init l D cI cB cZ H.size w56) (zc_IN 0 jts cd_Row_init (jK.nest ln_SC_18 rfl) im_Row_init in_Row rfl hd_Row_init ⟨Nat.le_of_ble_eq_true rfl, Nat.le_of_ble_eq_true rfl⟩ rfl rfl) (z_preS jK jP jD [16] (by decide) rfl rfl) rfl rfl jl.1 rfl (lv_room (Nat.le_of_ble_eq_true rfl)) d_SC_init_60 ⟨Nat.le_of_ble_eq_true rfl, Nat.le_of_ble_eq_true rfl⟩) (fun u60 H locs hu60 jP jD jS => ?_)
  obtain ⟨q1_60, rfl⟩ : ∃ z, z = u60 := ⟨_, rfl⟩
  have jP : va_P D classes [(g, .inr (3, [.ref w8, .ref w17, .ref w23, .ref w34, .ref w45, .null, .null, .int (iZ 0)])), (w8, .inl (cI, 256, .inl (zA (fun _ => 0)))), (w17, .inl (cI, 256, .inl (zA (fun _ => 0)))), (w23, .inr (0, [.ref q1_27, .int (iZ 0), .int (iZ 0), .int (iZ 0), .int (iZ 0), .int (iZ 0), .int (iZ 0)])), (q1_27, .inl (cB, 6000, .inl (zA (fun _ => 0)))), (w34, .inr (1, [.ref s1_38, .ref s2_38, .ref s3_38, .ref s4_38, .ref s5_38, .ref s6_38, .ref s7_38, .int (iZ 0)])), (s1_38, .inl (cI, 256, .inl (zA (fun _ => 0)))), (s2_38, .inl (cI, 4096, .inl (zA (fun _ => 0)))), (s3_38, .inl (cI, 4096, .inl (zA (fun _ => 0)))), (s4_38, .inl (cI, 4096, .inl (zA (fun _ => 0)))), (s5_38, .inl (cI, 4096, .inl (zA (fun _ => 0)))), (s6_38, .inl (cI, 256, .inl (zA (fun _ => 0)))), (s7_38, .inl (cI, 256, .inl (zA (fun _ => 0)))), (w45, .inr (2, [.ref s1_49, .ref s2_49, .int (iZ 0)])), (s1_49, .inl (cI, 256, .inl (zA (fun _ => 0)))), (s2_49, .inl (cI, 256, .inl (zA (fun _ => 0)))), (w56, .inr (0, [.ref q1_60, .int (iZ 0), .int (iZ 0), .int (iZ 0), .int (iZ 0), .int (iZ 0), .int (iZ 0)])), (q1_60, .inl (cB, 6000, .inl (zA (fun _ => 0))))] H := jP.sub [0, 1, 2, 3, 4, 5, 6, 7, 8, 9, 10, 11, 12, 13, 14, 15, 16, 17] rfl
  have jD : va_D A [(g, .inr (3, [.ref w8, .ref w17, .ref w23, .ref w34, .ref w45, .null, .null, .int (iZ 0)])), (w8, .inl (cI, 256, .inl (zA (fun _ => 0)))), (w17, .inl (cI, 256, .inl (zA (fun _ => 0)))), (w23, .inr (0, [.ref q1_27, .int (iZ 0), .int (iZ 0), .int (iZ 0), .int (iZ 0), .int (iZ 0), .int (iZ 0)])), (q1_27, .inl (cB, 6000, .inl (zA (fun _ => 0)))), (w34, .inr (1, [.ref s1_38, .ref s2_38, .ref s3_38, .ref s4_38, .ref s5_38, .ref s6_38, .ref s7_38, .int (iZ 0)])), (s1_38, .inl (cI, 256, .inl (zA (fun _ => 0)))), (s2_38, .inl (cI, 4096, .inl (zA (fun _ => 0)))), (s3_38, .inl (cI, 4096, .inl (zA (fun _ => 0)))), (s4_38, .inl (cI, 4096, .inl (zA (fun _ => 0)))), (s5_38, .inl (cI, 4096, .inl (zA (fun _ => 0)))), (s6_38, .inl (cI, 256, .inl (zA (fun _ => 0)))), (s7_38, .inl (cI, 256, .inl (zA (fun _ => 0)))), (w45, .inr (2, [.ref s1_49, .ref s2_49, .int (iZ 0)])), (s1_49, .inl (cI, 256, .inl (zA (fun _ => 0)))), (s2_49, .inl (cI, 256, .inl (zA (fun _ => 0)))), (w56, .inr (0, [.ref q1_60, .int (iZ 0), .int (iZ 0), .int (iZ 0), .int (iZ 0), .int (iZ 0), .int (iZ 0)])), (q1_60, .inl (cB, 6000, .inl (zA (fun _ => 0))))] := jD.sub [0, 1, 2, 3, 4, 5, 6, 7, 8, 9, 10, 11, 12, 13, 14, 15, 16, 17] (by decide) rfl
  refine va_put (D := D) (ci := 3) (v := .ref w56) (ty := (.object "StateCoder$Row")) (C := R_SC) (T := F_SC) (N := 8) jx jb jts i_SC t_SC t_SC_ok n_SC jown jK.1 jP jD jS 0 rfl rfl 5 (by decide) (jts _ fl_SC_37) (fun _ h9 => h9) rfl (by decide +kernel) rfl rfl (Nat.le_of_ble_eq_true rfl) d_SC_init_63 (fun H locs jP jD jS => ?_)
  have jP : va_P D classes [(g, .inr (3, [.ref w8, .ref w17, .ref w23, .ref w34, .ref w45, .ref w56, .null, .int (iZ 0)])), (w8, .inl (cI, 256, .inl (zA (fun _ => 0)))), (w17, .inl (cI, 256, .inl (zA (fun _ => 0)))), (w23, .inr (0, [.ref q1_27, .int (iZ 0), .int (iZ 0), .int (iZ 0), .int (iZ 0), .int (iZ 0), .int (iZ 0)])), (q1_27, .inl (cB, 6000, .inl (zA (fun _ => 0)))), (w34, .inr (1, [.ref s1_38, .ref s2_38, .ref s3_38, .ref s4_38, .ref s5_38, .ref s6_38, .ref s7_38, .int (iZ 0)])), (s1_38, .inl (cI, 256, .inl (zA (fun _ => 0)))), (s2_38, .inl (cI, 4096, .inl (zA (fun _ => 0)))), (s3_38, .inl (cI, 4096, .inl (zA (fun _ => 0)))), (s4_38, .inl (cI, 4096, .inl (zA (fun _ => 0)))), (s5_38, .inl (cI, 4096, .inl (zA (fun _ => 0)))), (s6_38, .inl (cI, 256, .inl (zA (fun _ => 0)))), (s7_38, .inl (cI, 256, .inl (zA (fun _ => 0)))), (w45, .inr (2, [.ref s1_49, .ref s2_49, .int (iZ 0)])), (s1_49, .inl (cI, 256, .inl (zA (fun _ => 0)))), (s2_49, .inl (cI, 256, .inl (zA (fun _ => 0)))), (w56, .inr (0, [.ref q1_60, .int (iZ 0), .int (iZ 0), .int (iZ 0), .int (iZ 0), .int (iZ 0), .int (iZ 0)])), (q1_60, .inl (cB, 6000, .inl (zA (fun _ => 0))))] H := jP
  have jD : va_D A [(g, .inr (3, [.ref w8, .ref w17, .ref w23, .ref w34, .ref w45, .ref w56, .null, .int (iZ 0)])), (w8, .inl (cI, 256, .inl (zA (fun _ => 0)))), (w17, .inl (cI, 256, .inl (zA (fun _ => 0)))), (w23, .inr (0, [.ref q1_27, .int (iZ 0), .int (iZ 0), .int (iZ 0), .int (iZ 0), .int (iZ 0), .int (iZ 0)])), (q1_27, .inl (cB, 6000, .inl (zA (fun _ => 0)))), (w34, .inr (1, [.ref s1_38, .ref s2_38, .ref s3_38, .ref s4_38, .ref s5_38, .ref s6_38, .ref s7_38, .int (iZ 0)])), (s1_38, .inl (cI, 256, .inl (zA (fun _ => 0)))), (s2_38, .inl (cI, 4096, .inl (zA (fun _ => 0)))), (s3_38, .inl (cI, 4096, .inl (zA (fun _ => 0)))), (s4_38, .inl (cI, 4096, .inl (zA (fun _ => 0)))), (s5_38, .inl (cI, 4096, .inl (zA (fun _ => 0)))), (s6_38, .inl (cI, 256, .inl (zA (fun _ => 0)))), (s7_38, .inl (cI, 256, .inl (zA (fun _ => 0)))), (w45, .inr (2, [.ref s1_49, .ref s2_49, .int (iZ 0)])), (s1_49, .inl (cI, 256, .inl (zA (fun _ => 0)))), (s2_49, .inl (cI, 256, .inl (zA (fun _ => 0)))), (w56, .inr (0, [.ref q1_60, .int (iZ 0), .int (iZ 0), .int (iZ 0), .int (iZ 0), .int (iZ 0), .int (iZ 0)])), (q1_60, .inl (cB, 6000, .inl (zA (fun _ => 0))))] := jD
  refine lv_aload_n jx jb d_SC_init_66 rfl (lv_at jl 0 rfl) ?_
  refine va_new (ci := 0) (fs := [.null, .int (iZ 0), .int (iZ 0), .int (iZ 0), .int (iZ 0), .int (iZ 0), .int (iZ 0)]) (C := R_Row) (T := F_Row) (N := 7) jx jb jts i_Row t_Row t_Row_ok jown (jts _ cl_SC_16) (jts _ is_Row) (jts _ in_Row) jK.1 jP jD jS jA rfl (fun j hj => by rcases (show j = 0 ∨ j = 1 ∨ j = 2 ∨ j = 3 ∨ j = 4 ∨ j = 5 ∨ j = 6 by omega) with rfl | rfl | rfl | rfl | rfl | rfl | rfl <;> rfl) (Nat.le_of_ble_eq_true rfl) (Nat.le_of_ble_eq_true rfl) d_SC_init_67 (fun w67 H jP jD jS => ?_)
  have jP : va_P D classes [(g, .inr (3, [.ref w8, .ref w17, .ref w23, .ref w34, .ref w45, .ref w56, .null, .int (iZ 0)])), (w8, .inl (cI, 256, .inl (zA (fun _ => 0)))), (w17, .inl (cI, 256, .inl (zA (fun _ => 0)))), (w23, .inr (0, [.ref q1_27, .int (iZ 0), .int (iZ 0), .int (iZ 0), .int (iZ 0), .int (iZ 0), .int (iZ 0)])), (q1_27, .inl (cB, 6000, .inl (zA (fun _ => 0)))), (w34, .inr (1, [.ref s1_38, .ref s2_38, .ref s3_38, .ref s4_38, .ref s5_38, .ref s6_38, .ref s7_38, .int (iZ 0)])), (s1_38, .inl (cI, 256, .inl (zA (fun _ => 0)))), (s2_38, .inl (cI, 4096, .inl (zA (fun _ => 0)))), (s3_38, .inl (cI, 4096, .inl (zA (fun _ => 0)))), (s4_38, .inl (cI, 4096, .inl (zA (fun _ => 0)))), (s5_38, .inl (cI, 4096, .inl (zA (fun _ => 0)))), (s6_38, .inl (cI, 256, .inl (zA (fun _ => 0)))), (s7_38, .inl (cI, 256, .inl (zA (fun _ => 0)))), (w45, .inr (2, [.ref s1_49, .ref s2_49, .int (iZ 0)])), (s1_49, .inl (cI, 256, .inl (zA (fun _ => 0)))), (s2_49, .inl (cI, 256, .inl (zA (fun _ => 0)))), (w56, .inr (0, [.ref q1_60, .int (iZ 0), .int (iZ 0), .int (iZ 0), .int (iZ 0), .int (iZ 0), .int (iZ 0)])), (q1_60, .inl (cB, 6000, .inl (zA (fun _ => 0)))), (w67, .inr (0, [.null, .int (iZ 0), .int (iZ 0), .int (iZ 0), .int (iZ 0), .int (iZ 0), .int (iZ 0)]))] H := jP
  have jD : va_D A [(g, .inr (3, [.ref w8, .ref w17, .ref w23, .ref w34, .ref w45, .ref w56, .null, .int (iZ 0)])), (w8, .inl (cI, 256, .inl (zA (fun _ => 0)))), (w17, .inl (cI, 256, .inl (zA (fun _ => 0)))), (w23, .inr (0, [.ref q1_27, .int (iZ 0), .int (iZ 0), .int (iZ 0), .int (iZ 0), .int (iZ 0), .int (iZ 0)])), (q1_27, .inl (cB, 6000, .inl (zA (fun _ => 0)))), (w34, .inr (1, [.ref s1_38, .ref s2_38, .ref s3_38, .ref s4_38, .ref s5_38, .ref s6_38, .ref s7_38, .int (iZ 0)])), (s1_38, .inl (cI, 256, .inl (zA (fun _ => 0)))), (s2_38, .inl (cI, 4096, .inl (zA (fun _ => 0)))), (s3_38, .inl (cI, 4096, .inl (zA (fun _ => 0)))), (s4_38, .inl (cI, 4096, .inl (zA (fun _ => 0)))), (s5_38, .inl (cI, 4096, .inl (zA (fun _ => 0)))), (s6_38, .inl (cI, 256, .inl (zA (fun _ => 0)))), (s7_38, .inl (cI, 256, .inl (zA (fun _ => 0)))), (w45, .inr (2, [.ref s1_49, .ref s2_49, .int (iZ 0)])), (s1_49, .inl (cI, 256, .inl (zA (fun _ => 0)))), (s2_49, .inl (cI, 256, .inl (zA (fun _ => 0)))), (w56, .inr (0, [.ref q1_60, .int (iZ 0), .int (iZ 0), .int (iZ 0), .int (iZ 0), .int (iZ 0), .int (iZ 0)])), (q1_60, .inl (cB, 6000, .inl (zA (fun _ => 0)))), (w67, .inr (0, [.null, .int (iZ 0), .int (iZ 0), .int (iZ 0), .int (iZ 0), .int (iZ 0), .int (iZ 0)]))] := jD
  refine lv_dup jx jb d_SC_init_70 rfl ?_
  refine z_backv (wr := [(g, .inr (3, [.ref w8, .ref w17, .ref w23, .ref w34, .ref w45, .ref w56, .null, .int (iZ 0)])), (w8, .inl (cI, 256, .inl (zA (fun _ => 0)))), (w17, .inl (cI, 256, .inl (zA (fun _ => 0)))), (w23, .inr (0, [.ref q1_27, .int (iZ 0), .int (iZ 0), .int (iZ 0), .int (iZ 0), .int (iZ 0), .int (iZ 0)])), (q1_27, .inl (cB, 6000, .inl (zA (fun _ => 0)))), (w34, .inr (1, [.ref s1_38, .ref s2_38, .ref s3_38, .ref s4_38, .ref s5_38, .ref s6_38, .ref s7_38, .int (iZ 0)])), (s1_38, .inl (cI, 256, .inl (zA (fun _ => 0)))), (s2_38, .inl (cI, 4096, .inl (zA (fun _ => 0)))), (s3_38, .inl (cI, 4096, .inl (zA (fun _ => 0)))), (s4_38, .inl (cI, 4096, .inl (zA (fun _ => 0)))), (s5_38, .inl (cI, 4096, .inl (zA (fun _ => 0)))), (s6_38, .inl (cI, 256, .inl (zA (fun _ => 0)))), (s7_38, .inl (cI, 256, .inl (zA (fun _ => 0)))), (w45, .inr (2, [.ref s1_49, .ref s2_49, .int (iZ 0)])), (s1_49, .inl (cI, 256, .inl (zA (fun _ => 0)))), (s2_49, .inl (cI, 256, .inl (zA (fun _ => 0)))), (w56, .inr (0, [.ref q1_60, .int (iZ 0), .int (iZ 0), .int (iZ 0), .int (iZ 0), .int (iZ 0), .int (iZ 0)])), (q1_60, .inl (cB, 6000, .inl (zA (fun _ => 0))))]) jP jD jS jA [18] [0, 1, 2, 3, 4, 5, 6, 7, 8, 9, 10, 11, 12, 13, 14, 15, 16, 17] rfl rfl (by decide) (by decide) (va_runIN (As := []) (rest := [.ref w67, .ref g]) ⟨jx, jb, jml, jown, jts⟩ (c_Row_init l D cI cB cZ H.size w67) (zc_IN 0 jts cd_Row_init (jK.nest ln_SC_18 rfl) im_Row_init in_Row rfl hd_Row_init ⟨Nat.le_of_ble_eq_true rfl, Nat.le_of_ble_eq_true rfl⟩ rfl rfl) (z_preS jK jP jD [18] (by decide) rfl rfl) rfl rfl jl.1 rfl (lv_room (Nat.le_of_ble_eq_true rfl)) d_SC_init_71 ⟨Nat.le_of_ble_eq_true rfl, Nat.le_of_ble_eq_true rfl⟩) (fun u71 H locs hu71 jP jD jS => ?_)
  obtain ⟨q1_71, rfl⟩ : ∃ z, z = u71 := ⟨_, rfl⟩
  have jP : va_P D classes [(g, .inr (3, [.ref w8, .ref w17, .ref w23, .ref w34, .ref w45, .ref w56, .null, .int (iZ 0)])), (w8, .inl (cI, 256, .inl (zA (fun _ => 0)))), (w17, .inl (cI, 256, .inl (zA (fun _ => 0)))), (w23, .inr (0, [.ref q1_27, .int (iZ 0), .int (iZ 0), .int (iZ 0), .int (iZ 0), .int (iZ 0), .int (iZ 0)])), (q1_27, .inl (cB, 6000, .inl (zA (fun _ => 0)))), (w34, .inr (1, [.ref s1_38, .ref s2_38, .ref s3_38, .ref s4_38, .ref s5_38, .ref s6_38, .ref s7_38, .int (iZ 0)])), (s1_38, .inl (cI, 256, .inl (zA (fun _ => 0)))), (s2_38, .inl (cI, 4096, .inl (zA (fun _ => 0)))), (s3_38, .inl (cI, 4096, .inl (zA (fun _ => 0)))), (s4_38, .inl (cI, 4096, .inl (zA (fun _ => 0)))), (s5_38, .inl (cI, 4096, .inl (zA (fun _ => 0)))), (s6_38, .inl (cI, 256, .inl (zA (fun _ => 0)))), (s7_38, .inl (cI, 256, .inl (zA (fun _ => 0)))), (w45, .inr (2, [.ref s1_49, .ref s2_49, .int (iZ 0)])), (s1_49, .inl (cI, 256, .inl (zA (fun _ => 0)))), (s2_49, .inl (cI, 256, .inl (zA (fun _ => 0)))), (w56, .inr (0, [.ref q1_60, .int (iZ 0), .int (iZ 0), .int (iZ 0), .int (iZ 0), .int (iZ 0), .int (iZ 0)])), (q1_60, .inl (cB, 6000, .inl (zA (fun _ => 0)))), (w67, .inr (0, [.ref q1_71, .int (iZ 0), .int (iZ 0), .int (iZ 0), .int (iZ 0), .int (iZ 0), .int (iZ 0)])), (q1_71, .inl (cB, 6000, .inl (zA (fun _ => 0))))] H := jP.sub [0, 1, 2, 3, 4, 5, 6, 7, 8, 9, 10, 11, 12, 13, 14, 15, 16, 17, 18, 19] rfl
  have jD : va_D A [(g, .inr (3, [.ref w8, .ref w17, .ref w23, .ref w34, .ref w45, .ref w56, .null, .int (iZ 0)])), (w8, .inl (cI, 256, .inl (zA (fun _ => 0)))), (w17, .inl (cI, 256, .inl (zA (fun _ => 0)))), (w23, .inr (0, [.ref q1_27, .int (iZ 0), .int (iZ 0), .int (iZ 0), .int (iZ 0), .int (iZ 0), .int (iZ 0)])), (q1_27, .inl (cB, 6000, .inl (zA (fun _ => 0)))), (w34, .inr (1, [.ref s1_38, .ref s2_38, .ref s3_38, .ref s4_38, .ref s5_38, .ref s6_38, .ref s7_38, .int (iZ 0)])), (s1_38, .inl (cI, 256, .inl (zA (fun _ => 0)))), (s2_38, .inl (cI, 4096, .inl (zA (fun _ => 0)))), (s3_38, .inl (cI, 4096, .inl (zA (fun _ => 0)))), (s4_38, .inl (cI, 4096, .inl (zA (fun _ => 0)))), (s5_38, .inl (cI, 4096, .inl (zA (fun _ => 0)))), (s6_38, .inl (cI, 256, .inl (zA (fun _ => 0)))), (s7_38, .inl (cI, 256, .inl (zA (fun _ => 0)))), (w45, .inr (2, [.ref s1_49, .ref s2_49, .int (iZ 0)])), (s1_49, .inl (cI, 256, .inl (zA (fun _ => 0)))), (s2_49, .inl (cI, 256, .inl (zA (fun _ => 0)))), (w56, .inr (0, [.ref q1_60, .int (iZ 0), .int (iZ 0), .int (iZ 0), .int (iZ 0), .int (iZ 0), .int (iZ 0)])), (q1_60, .inl (cB, 6000, .inl (zA (fun _ => 0)))), (w67, .inr (0, [.ref q1_71, .int (iZ 0), .int (iZ 0), .int (iZ 0), .int (iZ 0), .int (iZ 0), .int (iZ 0)])), (q1_71, .inl (cB, 6000, .inl (zA (fun _ => 0))))] := jD.sub [0, 1, 2, 3, 4, 5, 6, 7, 8, 9, 10, 11, 12, 13, 14, 15, 16, 17, 18, 19] (by decide) rfl
  refine va_put (D := D) (ci := 3) (v := .ref w67) (ty := (.object "StateCoder$Row")) (C := R_SC) (T := F_SC) (N := 8) jx jb jts i_SC t_SC t_SC_ok n_SC jown jK.1 jP jD jS 0 rfl rfl 6 (by decide) (jts _ fl_SC_40) (fun _ h9 => h9) rfl (by decide +kernel) rfl rfl (Nat.le_of_ble_eq_true rfl) d_SC_init_74 (fun H locs jP jD jS => ?_)
  have jP : va_P D classes [(g, .inr (3, [.ref w8, .ref w17, .ref w23, .ref w34, .ref w45, .ref w56, .ref w67, .int (iZ 0)])), (w8, .inl (cI, 256, .inl (zA (fun _ => 0)))), (w17, .inl (cI, 256, .inl (zA (fun _ => 0)))), (w23, .inr (0, [.ref q1_27, .int (iZ 0), .int (iZ 0), .int (iZ 0), .int (iZ 0), .int (iZ 0), .int (iZ 0)])), (q1_27, .inl (cB, 6000, .inl (zA (fun _ => 0)))), (w34, .inr (1, [.ref s1_38, .ref s2_38, .ref s3_38, .ref s4_38, .ref s5_38, .ref s6_38, .ref s7_38, .int (iZ 0)])), (s1_38, .inl (cI, 256, .inl (zA (fun _ => 0)))), (s2_38, .inl (cI, 4096, .inl (zA (fun _ => 0)))), (s3_38, .inl (cI, 4096, .inl (zA (fun _ => 0)))), (s4_38, .inl (cI, 4096, .inl (zA (fun _ => 0)))), (s5_38, .inl (cI, 4096, .inl (zA (fun _ => 0)))), (s6_38, .inl (cI, 256, .inl (zA (fun _ => 0)))), (s7_38, .inl (cI, 256, .inl (zA (fun _ => 0)))), (w45, .inr (2, [.ref s1_49, .ref s2_49, .int (iZ 0)])), (s1_49, .inl (cI, 256, .inl (zA (fun _ => 0)))), (s2_49, .inl (cI, 256, .inl (zA (fun _ => 0)))), (w56, .inr (0, [.ref q1_60, .int (iZ 0), .int (iZ 0), .int (iZ 0), .int (iZ 0), .int (iZ 0), .int (iZ 0)])), (q1_60, .inl (cB, 6000, .inl (zA (fun _ => 0)))), (w67, .inr (0, [.ref q1_71, .int (iZ 0), .int (iZ 0), .int (iZ 0), .int (iZ 0), .int (iZ 0), .int (iZ 0)])), (q1_71, .inl (cB, 6000, .inl (zA (fun _ => 0))))] H := jP
  have jD : va_D A [(g, .inr (3, [.ref w8, .ref w17, .ref w23, .ref w34, .ref w45, .ref w56, .ref w67, .int (iZ 0)])), (w8, .inl (cI, 256, .inl (zA (fun _ => 0)))), (w17, .inl (cI, 256, .inl (zA (fun _ => 0)))), (w23, .inr (0, [.ref q1_27, .int (iZ 0), .int (iZ 0), .int (iZ 0), .int (iZ 0), .int (iZ 0), .int (iZ 0)])), (q1_27, .inl (cB, 6000, .inl (zA (fun _ => 0)))), (w34, .inr (1, [.ref s1_38, .ref s2_38, .ref s3_38, .ref s4_38, .ref s5_38, .ref s6_38, .ref s7_38, .int (iZ 0)])), (s1_38, .inl (cI, 256, .inl (zA (fun _ => 0)))), (s2_38, .inl (cI, 4096, .inl (zA (fun _ => 0)))), (s3_38, .inl (cI, 4096, .inl (zA (fun _ => 0)))), (s4_38, .inl (cI, 4096, .inl (zA (fun _ => 0)))), (s5_38, .inl (cI, 4096, .inl (zA (fun _ => 0)))), (s6_38, .inl (cI, 256, .inl (zA (fun _ => 0)))), (s7_38, .inl (cI, 256, .inl (zA (fun _ => 0)))), (w45, .inr (2, [.ref s1_49, .ref s2_49, .int (iZ 0)])), (s1_49, .inl (cI, 256, .inl (zA (fun _ => 0)))), (s2_49, .inl (cI, 256, .inl (zA (fun _ => 0)))), (w56, .inr (0, [.ref q1_60, .int (iZ 0), .int (iZ 0), .int (iZ 0), .int (iZ 0), .int (iZ 0), .int (iZ 0)])), (q1_60, .inl (cB, 6000, .inl (zA (fun _ => 0)))), (w67, .inr (0, [.ref q1_71, .int (iZ 0), .int (iZ 0), .int (iZ 0), .int (iZ 0), .int (iZ 0), .int (iZ 0)])), (q1_71, .inl (cB, 6000, .inl (zA (fun _ => 0))))] := jD
  exact jret _ _ (w8, w17, w23, q1_27, w34, s1_38, s2_38, s3_38, s4_38, s5_38, s6_38, s7_38, w45, s1_49, s2_49, w56, q1_60, w67, q1_71) _ _ (trivial) (jP.sub [0, 1, 2, 3, 4, 5, 6, 7, 8, 9, 10, 11, 12, 13, 14, 15, 16, 17, 18, 19] rfl) (jD.sub [0, 1, 2, 3, 4, 5, 6, 7, 8, 9, 10, 11, 12, 13, 14, 15, 16, 17, 18, 19] (by decide) rfl) jS d_SC_init_77
end
section
theorem fl_SC_55 : Cond.fieldLink R_SC 55 "StateCoder" "position" "I" ∈ zT := zT_of (List.mem_of_getElem? (i := 138) (by decide +kernel)) rfl
theorem cd_Row_length : Cond.code y_Row_length b_Row_length 1 (some .int) ∈ zT := zT_of (List.mem_of_getElem? (i := 163) (by decide +kernel)) rfl
theorem hd_Row_length : y_Row_length.cls ≠ "java/lang/invoke/MethodHandle" ∧ y_Row_length.cls ≠ "java/lang/invoke/VarHandle" ∧ (parseMethodDescriptor y_Row_length.desc).map (fun d => d.parameters.length) = some 0 := by decide +kernel
theorem lk_SC_43 : Cond.methodLink R_SC 43 y_Row_length ∈ zT := zT_of (List.mem_of_getElem? (i := 160) (by decide +kernel)) rfl
theorem im_Row_length : Cond.instanceMethod y_Row_length ∈ zT := zT_of (List.mem_of_getElem? (i := 161) (by decide +kernel)) rfl
theorem se_Row_length : Cond.selects R_Row y_Row_length y_Row_length ∈ zT := zT_of (List.mem_of_getElem? (i := 162) (by decide +kernel)) rfl
theorem lk_SC_73 : Cond.methodLink R_SC 73 y_Row_byteOrZero ∈ zT := zT_of (List.mem_of_getElem? (i := 211) (by decide +kernel)) rfl
theorem lk_SC_68 : Cond.methodLink R_SC 68 y_SC_isSymbol ∈ zT := zT_of (List.mem_of_getElem? (i := 203) (by decide +kernel)) rfl
theorem cn_SC_72 : Cond.constant R_SC 72 (iZ 65535) ∈ zT := zT_of (List.mem_of_getElem? (i := 206) (by decide +kernel)) rfl
theorem cd_Row_copyFrom : Cond.code y_Row_copyFrom b_Row_copyFrom 2 none ∈ zT := zT_of (List.mem_of_getElem? (i := 175) (by decide +kernel)) rfl
theorem hd_Row_copyFrom : y_Row_copyFrom.cls ≠ "java/lang/invoke/MethodHandle" ∧ y_Row_copyFrom.cls ≠ "java/lang/invoke/VarHandle" ∧ (parseMethodDescriptor y_Row_copyFrom.desc).map (fun d => d.parameters.length) = some 1 := by decide +kernel
theorem lk_SC_51 : Cond.methodLink R_SC 51 y_Row_copyFrom ∈ zT := zT_of (List.mem_of_getElem? (i := 172) (by decide +kernel)) rfl
theorem im_Row_copyFrom : Cond.instanceMethod y_Row_copyFrom ∈ zT := zT_of (List.mem_of_getElem? (i := 173) (by decide +kernel)) rfl
theorem se_Row_copyFrom : Cond.selects R_Row y_Row_copyFrom y_Row_copyFrom ∈ zT := zT_of (List.mem_of_getElem? (i := 174) (by decide +kernel)) rfl
theorem lk_SC_91 : Cond.methodLink R_SC 91 y_Share_exists ∈ zT := zT_of (List.mem_of_getElem? (i := 307) (by decide +kernel)) rfl
theorem cd_Share_lastSymbol : Cond.code y_Share_lastSymbol b_Share_lastSymbol 2 (some .int) ∈ zT := zT_of (List.mem_of_getElem? (i := 399) (by decide +kernel)) rfl
theorem hd_Share_lastSymbol : y_Share_lastSymbol.cls ≠ "java/lang/invoke/MethodHandle" ∧ y_Share_lastSymbol.cls ≠ "java/lang/invoke/VarHandle" ∧ (parseMethodDescriptor y_Share_lastSymbol.desc).map (fun d => d.parameters.length) = some 0 := by decide +kernel
theorem lk_SC_116 : Cond.methodLink R_SC 116 y_Share_lastSymbol ∈ zT := zT_of (List.mem_of_getElem? (i := 396) (by decide +kernel)) rfl
theorem im_Share_lastSymbol : Cond.instanceMethod y_Share_lastSymbol ∈ zT := zT_of (List.mem_of_getElem? (i := 397) (by decide +kernel)) rfl
theorem se_Share_lastSymbol : Cond.selects R_Share y_Share_lastSymbol y_Share_lastSymbol ∈ zT := zT_of (List.mem_of_getElem? (i := 398) (by decide +kernel)) rfl
theorem cd_Share_order : Cond.code y_Share_order b_Share_order 1 (some .int) ∈ zT := zT_of (List.mem_of_getElem? (i := 315) (by decide +kernel)) rfl
theorem hd_Share_order : y_Share_order.cls ≠ "java/lang/invoke/MethodHandle" ∧ y_Share_order.cls ≠ "java/lang/invoke/VarHandle" ∧ (parseMethodDescriptor y_Share_order.desc).map (fun d => d.parameters.length) = some 0 := by decide +kernel
theorem lk_SC_113 : Cond.methodLink R_SC 113 y_Share_order ∈ zT := zT_of (List.mem_of_getElem? (i := 395) (by decide +kernel)) rfl
theorem im_Share_order : Cond.instanceMethod y_Share_order ∈ zT := zT_of (List.mem_of_getElem? (i := 313) (by decide +kernel)) rfl
theorem se_Share_order : Cond.selects R_Share y_Share_order y_Share_order ∈ zT := zT_of (List.mem_of_getElem? (i := 314) (by decide +kernel)) rfl
theorem lk_SC_119 : Cond.methodLink R_SC 119 y_Share_pointsOf ∈ zT := zT_of (List.mem_of_getElem? (i := 404) (by decide +kernel)) rfl
theorem lk_SC_47 : Cond.methodLink R_SC 47 y_Row_add ∈ zT := zT_of (List.mem_of_getElem? (i := 164) (by decide +kernel)) rfl
theorem lk_SC_122 : Cond.methodLink R_SC 122 y_Share_hasCell ∈ zT := zT_of (List.mem_of_getElem? (i := 409) (by decide +kernel)) rfl
theorem cd_Share_symbolOf : Cond.code y_Share_symbolOf b_Share_symbolOf 2 (some .int) ∈ zT := zT_of (List.mem_of_getElem? (i := 413) (by decide +kernel)) rfl
theorem hd_Share_symbolOf : y_Share_symbolOf.cls ≠ "java/lang/invoke/MethodHandle" ∧ y_Share_symbolOf.cls ≠ "java/lang/invoke/VarHandle" ∧ (parseMethodDescriptor y_Share_symbolOf.desc).map (fun d => d.parameters.length) = some 1 := by decide +kernel
theorem lk_SC_125 : Cond.methodLink R_SC 125 y_Share_symbolOf ∈ zT := zT_of (List.mem_of_getElem? (i := 410) (by decide +kernel)) rfl
theorem im_Share_symbolOf : Cond.instanceMethod y_Share_symbolOf ∈ zT := zT_of (List.mem_of_getElem? (i := 411) (by decide +kernel)) rfl
theorem se_Share_symbolOf : Cond.selects R_Share y_Share_symbolOf y_Share_symbolOf ∈ zT := zT_of (List.mem_of_getElem? (i := 412) (by decide +kernel)) rfl
theorem cd_Share_bitsOf : Cond.code y_Share_bitsOf b_Share_bitsOf 2 (some .int) ∈ zT := zT_of (List.mem_of_getElem? (i := 417) (by decide +kernel)) rfl
theorem hd_Share_bitsOf : y_Share_bitsOf.cls ≠ "java/lang/invoke/MethodHandle" ∧ y_Share_bitsOf.cls ≠ "java/lang/invoke/VarHandle" ∧ (parseMethodDescriptor y_Share_bitsOf.desc).map (fun d => d.parameters.length) = some 1 := by decide +kernel
theorem lk_SC_128 : Cond.methodLink R_SC 128 y_Share_bitsOf ∈ zT := zT_of (List.mem_of_getElem? (i := 414) (by decide +kernel)) rfl
theorem im_Share_bitsOf : Cond.instanceMethod y_Share_bitsOf ∈ zT := zT_of (List.mem_of_getElem? (i := 415) (by decide +kernel)) rfl
theorem se_Share_bitsOf : Cond.selects R_Share y_Share_bitsOf y_Share_bitsOf ∈ zT := zT_of (List.mem_of_getElem? (i := 416) (by decide +kernel)) rfl
theorem cd_Share_baseOf : Cond.code y_Share_baseOf b_Share_baseOf 2 (some .int) ∈ zT := zT_of (List.mem_of_getElem? (i := 421) (by decide +kernel)) rfl
theorem hd_Share_baseOf : y_Share_baseOf.cls ≠ "java/lang/invoke/MethodHandle" ∧ y_Share_baseOf.cls ≠ "java/lang/invoke/VarHandle" ∧ (parseMethodDescriptor y_Share_baseOf.desc).map (fun d => d.parameters.length) = some 1 := by decide +kernel
theorem lk_SC_131 : Cond.methodLink R_SC 131 y_Share_baseOf ∈ zT := zT_of (List.mem_of_getElem? (i := 418) (by decide +kernel)) rfl
theorem im_Share_baseOf : Cond.instanceMethod y_Share_baseOf ∈ zT := zT_of (List.mem_of_getElem? (i := 419) (by decide +kernel)) rfl
theorem se_Share_baseOf : Cond.selects R_Share y_Share_baseOf y_Share_baseOf ∈ zT := zT_of (List.mem_of_getElem? (i := 420) (by decide +kernel)) rfl
theorem d_SC_at_0 : decode b_SC_at 0 = .ok (.aload_n 0, 1) := by decide +kernel
theorem d_SC_at_1 : decode b_SC_at 1 = .ok (.getfield 55, 3) := by decide +kernel
theorem d_SC_at_4 : decode b_SC_at 4 = .ok (.ireturn, 1) := by decide +kernel
theorem d_SC_size_0 : decode b_SC_size 0 = .ok (.aload_n 0, 1) := by decide +kernel
theorem d_SC_size_1 : decode b_SC_size 1 = .ok (.getfield 37, 3) := by decide +kernel
theorem d_SC_size_4 : decode b_SC_size 4 = .ok (.invokevirtual 43, 3) := by decide +kernel
theorem d_SC_size_7 : decode b_SC_size 7 = .ok (.ireturn, 1) := by decide +kernel
theorem d_SC_byteAt_0 : decode b_SC_byteAt 0 = .ok (.iload_n 1, 1) := by decide +kernel
theorem d_SC_byteAt_1 : decode b_SC_byteAt 1 = .ok (.ifCond .lt 14, 3) := by decide +kernel
theorem d_SC_byteAt_4 : decode b_SC_byteAt 4 = .ok (.iload_n 1, 1) := by decide +kernel
theorem d_SC_byteAt_5 : decode b_SC_byteAt 5 = .ok (.aload_n 0, 1) := by decide +kernel
theorem d_SC_byteAt_6 : decode b_SC_byteAt 6 = .ok (.getfield 37, 3) := by decide +kernel
theorem d_SC_byteAt_9 : decode b_SC_byteAt 9 = .ok (.invokevirtual 43, 3) := by decide +kernel
theorem d_SC_byteAt_12 : decode b_SC_byteAt 12 = .ok (.if_icmp .lt 7, 3) := by decide +kernel
theorem d_SC_byteAt_15 : decode b_SC_byteAt 15 = .ok (.iconst (-1), 1) := by decide +kernel
theorem d_SC_byteAt_16 : decode b_SC_byteAt 16 = .ok (.goto 11, 3) := by decide +kernel
theorem d_SC_byteAt_19 : decode b_SC_byteAt 19 = .ok (.aload_n 0, 1) := by decide +kernel
theorem d_SC_byteAt_20 : decode b_SC_byteAt 20 = .ok (.getfield 37, 3) := by decide +kernel
theorem d_SC_byteAt_23 : decode b_SC_byteAt 23 = .ok (.iload_n 1, 1) := by decide +kernel
theorem d_SC_byteAt_24 : decode b_SC_byteAt 24 = .ok (.invokevirtual 73, 3) := by decide +kernel
theorem d_SC_byteAt_27 : decode b_SC_byteAt 27 = .ok (.ireturn, 1) := by decide +kernel
theorem d_SC_place_0 : decode b_SC_place 0 = .ok (.iload_n 1, 1) := by decide +kernel
theorem d_SC_place_1 : decode b_SC_place 1 = .ok (.ifCond .lt 14, 3) := by decide +kernel
theorem d_SC_place_4 : decode b_SC_place 4 = .ok (.iload_n 1, 1) := by decide +kernel
theorem d_SC_place_5 : decode b_SC_place 5 = .ok (.aload_n 0, 1) := by decide +kernel
theorem d_SC_place_6 : decode b_SC_place 6 = .ok (.getfield 19, 3) := by decide +kernel
theorem d_SC_place_9 : decode b_SC_place 9 = .ok (.invokevirtual 43, 3) := by decide +kernel
theorem d_SC_place_12 : decode b_SC_place 12 = .ok (.if_icmp .le 5, 3) := by decide +kernel
theorem d_SC_place_15 : decode b_SC_place 15 = .ok (.iconst 0, 1) := by decide +kernel
theorem d_SC_place_16 : decode b_SC_place 16 = .ok (.ireturn, 1) := by decide +kernel
theorem d_SC_place_17 : decode b_SC_place 17 = .ok (.aload_n 0, 1) := by decide +kernel
theorem d_SC_place_18 : decode b_SC_place 18 = .ok (.iload_n 1, 1) := by decide +kernel
theorem d_SC_place_19 : decode b_SC_place 19 = .ok (.putfield 55, 3) := by decide +kernel
theorem d_SC_place_22 : decode b_SC_place 22 = .ok (.iconst 1, 1) := by decide +kernel
theorem d_SC_place_23 : decode b_SC_place 23 = .ok (.ireturn, 1) := by decide +kernel
theorem d_SC_count_0 : decode b_SC_count 0 = .ok (.iload_n 1, 1) := by decide +kernel
theorem d_SC_count_1 : decode b_SC_count 1 = .ok (.invokestatic 68, 3) := by decide +kernel
theorem d_SC_count_4 : decode b_SC_count 4 = .ok (.ifCond .eq 13, 3) := by decide +kernel
theorem d_SC_count_7 : decode b_SC_count 7 = .ok (.iload_n 2, 1) := by decide +kernel
theorem d_SC_count_8 : decode b_SC_count 8 = .ok (.ifCond .lt 9, 3) := by decide +kernel
theorem d_SC_count_11 : decode b_SC_count 11 = .ok (.iload_n 2, 1) := by decide +kernel
theorem d_SC_count_12 : decode b_SC_count 12 = .ok (.ldc 72, 2) := by decide +kernel
theorem d_SC_count_14 : decode b_SC_count 14 = .ok (.if_icmp .le 5, 3) := by decide +kernel
theorem d_SC_count_17 : decode b_SC_count 17 = .ok (.iconst 0, 1) := by decide +kernel
theorem d_SC_count_18 : decode b_SC_count 18 = .ok (.ireturn, 1) := by decide +kernel
theorem d_SC_count_19 : decode b_SC_count 19 = .ok (.aload_n 0, 1) := by decide +kernel
theorem d_SC_count_20 : decode b_SC_count 20 = .ok (.getfield 9, 3) := by decide +kernel
theorem d_SC_count_23 : decode b_SC_count 23 = .ok (.iload_n 1, 1) := by decide +kernel
theorem d_SC_count_24 : decode b_SC_count 24 = .ok (.iload_n 2, 1) := by decide +kernel
theorem d_SC_count_25 : decode b_SC_count 25 = .ok (.iastore, 1) := by decide +kernel
theorem d_SC_count_26 : decode b_SC_count 26 = .ok (.iconst 1, 1) := by decide +kernel
theorem d_SC_count_27 : decode b_SC_count 27 = .ok (.ireturn, 1) := by decide +kernel
theorem d_SC_turn_0 : decode b_SC_turn 0 = .ok (.aload_n 0, 1) := by decide +kernel
theorem d_SC_turn_1 : decode b_SC_turn 1 = .ok (.getfield 19, 3) := by decide +kernel
theorem d_SC_turn_4 : decode b_SC_turn 4 = .ok (.aload_n 0, 1) := by decide +kernel
theorem d_SC_turn_5 : decode b_SC_turn 5 = .ok (.getfield 37, 3) := by decide +kernel
theorem d_SC_turn_8 : decode b_SC_turn 8 = .ok (.invokevirtual 51, 3) := by decide +kernel
theorem d_SC_turn_11 : decode b_SC_turn 11 = .ok (.aload_n 0, 1) := by decide +kernel
theorem d_SC_turn_12 : decode b_SC_turn 12 = .ok (.iconst 0, 1) := by decide +kernel
theorem d_SC_turn_13 : decode b_SC_turn 13 = .ok (.putfield 55, 3) := by decide +kernel
theorem d_SC_turn_16 : decode b_SC_turn 16 = .ok (.return_, 1) := by decide +kernel
theorem d_SC_about_0 : decode b_SC_about 0 = .ok (.aload_n 0, 1) := by decide +kernel
theorem d_SC_about_1 : decode b_SC_about 1 = .ok (.getfield 26, 3) := by decide +kernel
theorem d_SC_about_4 : decode b_SC_about 4 = .ok (.invokevirtual 91, 3) := by decide +kernel
theorem d_SC_about_7 : decode b_SC_about 7 = .ok (.ifCond .ne 5, 3) := by decide +kernel
theorem d_SC_about_10 : decode b_SC_about 10 = .ok (.iconst (-1), 1) := by decide +kernel
theorem d_SC_about_11 : decode b_SC_about 11 = .ok (.ireturn, 1) := by decide +kernel
theorem d_SC_about_12 : decode b_SC_about 12 = .ok (.iload_n 1, 1) := by decide +kernel
theorem d_SC_about_13 : decode b_SC_about 13 = .ok (.ifCond .ne 11, 3) := by decide +kernel
theorem d_SC_about_16 : decode b_SC_about 16 = .ok (.aload_n 0, 1) := by decide +kernel
theorem d_SC_about_17 : decode b_SC_about 17 = .ok (.getfield 26, 3) := by decide +kernel
theorem d_SC_about_20 : decode b_SC_about 20 = .ok (.invokevirtual 113, 3) := by decide +kernel
theorem d_SC_about_23 : decode b_SC_about 23 = .ok (.ireturn, 1) := by decide +kernel
theorem d_SC_about_24 : decode b_SC_about 24 = .ok (.iload_n 1, 1) := by decide +kernel
theorem d_SC_about_25 : decode b_SC_about 25 = .ok (.iconst 1, 1) := by decide +kernel
theorem d_SC_about_26 : decode b_SC_about 26 = .ok (.if_icmp .ne 13, 3) := by decide +kernel
theorem d_SC_about_29 : decode b_SC_about 29 = .ok (.aload_n 0, 1) := by decide +kernel
theorem d_SC_about_30 : decode b_SC_about 30 = .ok (.getfield 26, 3) := by decide +kernel
theorem d_SC_about_33 : decode b_SC_about 33 = .ok (.invokevirtual 116, 3) := by decide +kernel
theorem d_SC_about_36 : decode b_SC_about 36 = .ok (.goto 4, 3) := by decide +kernel
theorem d_SC_about_39 : decode b_SC_about 39 = .ok (.iconst (-1), 1) := by decide +kernel
theorem d_SC_about_40 : decode b_SC_about 40 = .ok (.ireturn, 1) := by decide +kernel
theorem d_SC_points_0 : decode b_SC_points 0 = .ok (.aload_n 0, 1) := by decide +kernel
theorem d_SC_points_1 : decode b_SC_points 1 = .ok (.getfield 26, 3) := by decide +kernel
theorem d_SC_points_4 : decode b_SC_points 4 = .ok (.invokevirtual 91, 3) := by decide +kernel
theorem d_SC_points_7 : decode b_SC_points 7 = .ok (.ifCond .eq 21, 3) := by decide +kernel
theorem d_SC_points_10 : decode b_SC_points 10 = .ok (.iload_n 1, 1) := by decide +kernel
theorem d_SC_points_11 : decode b_SC_points 11 = .ok (.invokestatic 68, 3) := by decide +kernel
theorem d_SC_points_14 : decode b_SC_points 14 = .ok (.ifCond .eq 14, 3) := by decide +kernel
theorem d_SC_points_17 : decode b_SC_points 17 = .ok (.aload_n 0, 1) := by decide +kernel
theorem d_SC_points_18 : decode b_SC_points 18 = .ok (.getfield 26, 3) := by decide +kernel
theorem d_SC_points_21 : decode b_SC_points 21 = .ok (.iload_n 1, 1) := by decide +kernel
theorem d_SC_points_22 : decode b_SC_points 22 = .ok (.invokevirtual 119, 3) := by decide +kernel
theorem d_SC_points_25 : decode b_SC_points 25 = .ok (.goto 5, 3) := by decide +kernel
theorem d_SC_points_28 : decode b_SC_points 28 = .ok (.bipush (-2), 2) := by decide +kernel
theorem d_SC_points_30 : decode b_SC_points 30 = .ok (.ireturn, 1) := by decide +kernel
theorem d_SC_makeSpareOut_0 : decode b_SC_makeSpareOut 0 = .ok (.aload_n 0, 1) := by decide +kernel
theorem d_SC_makeSpareOut_1 : decode b_SC_makeSpareOut 1 = .ok (.getfield 40, 3) := by decide +kernel
theorem d_SC_makeSpareOut_4 : decode b_SC_makeSpareOut 4 = .ok (.astore_n 1, 1) := by decide +kernel
theorem d_SC_makeSpareOut_5 : decode b_SC_makeSpareOut 5 = .ok (.aload_n 0, 1) := by decide +kernel
theorem d_SC_makeSpareOut_6 : decode b_SC_makeSpareOut 6 = .ok (.aload_n 0, 1) := by decide +kernel
theorem d_SC_makeSpareOut_7 : decode b_SC_makeSpareOut 7 = .ok (.getfield 37, 3) := by decide +kernel
theorem d_SC_makeSpareOut_10 : decode b_SC_makeSpareOut 10 = .ok (.putfield 40, 3) := by decide +kernel
theorem d_SC_makeSpareOut_13 : decode b_SC_makeSpareOut 13 = .ok (.aload_n 0, 1) := by decide +kernel
theorem d_SC_makeSpareOut_14 : decode b_SC_makeSpareOut 14 = .ok (.aload_n 1, 1) := by decide +kernel
theorem d_SC_makeSpareOut_15 : decode b_SC_makeSpareOut 15 = .ok (.putfield 37, 3) := by decide +kernel
theorem d_SC_makeSpareOut_18 : decode b_SC_makeSpareOut 18 = .ok (.return_, 1) := by decide +kernel
theorem d_SC_write_0 : decode b_SC_write 0 = .ok (.iload_n 3, 1) := by decide +kernel
theorem d_SC_write_1 : decode b_SC_write 1 = .ok (.iconst 1, 1) := by decide +kernel
theorem d_SC_write_2 : decode b_SC_write 2 = .ok (.if_icmp .lt 24, 3) := by decide +kernel
theorem d_SC_write_5 : decode b_SC_write 5 = .ok (.iload_n 3, 1) := by decide +kernel
theorem d_SC_write_6 : decode b_SC_write 6 = .ok (.bipush 8, 2) := by decide +kernel
theorem d_SC_write_8 : decode b_SC_write 8 = .ok (.if_icmp .gt 18, 3) := by decide +kernel
theorem d_SC_write_11 : decode b_SC_write 11 = .ok (.aload_n 0, 1) := by decide +kernel
theorem d_SC_write_12 : decode b_SC_write 12 = .ok (.getfield 19, 3) := by decide +kernel
theorem d_SC_write_15 : decode b_SC_write 15 = .ok (.invokevirtual 43, 3) := by decide +kernel
theorem d_SC_write_18 : decode b_SC_write 18 = .ok (.iload_n 3, 1) := by decide +kernel
theorem d_SC_write_19 : decode b_SC_write 19 = .ok (.iadd, 1) := by decide +kernel
theorem d_SC_write_20 : decode b_SC_write 20 = .ok (.sipush 6000, 3) := by decide +kernel
theorem d_SC_write_23 : decode b_SC_write 23 = .ok (.if_icmp .le 5, 3) := by decide +kernel
theorem d_SC_write_26 : decode b_SC_write 26 = .ok (.iconst 0, 1) := by decide +kernel
theorem d_SC_write_27 : decode b_SC_write 27 = .ok (.ireturn, 1) := by decide +kernel
theorem d_SC_write_28 : decode b_SC_write 28 = .ok (.iload_n 3, 1) := by decide +kernel
theorem d_SC_write_29 : decode b_SC_write 29 = .ok (.iconst 1, 1) := by decide +kernel
theorem d_SC_write_30 : decode b_SC_write 30 = .ok (.isub, 1) := by decide +kernel
theorem d_SC_write_31 : decode b_SC_write 31 = .ok (.istore 4, 2) := by decide +kernel
theorem d_SC_write_33 : decode b_SC_write 33 = .ok (.iload 4, 2) := by decide +kernel
theorem d_SC_write_35 : decode b_SC_write 35 = .ok (.ifCond .lt 28, 3) := by decide +kernel
theorem d_SC_write_38 : decode b_SC_write 38 = .ok (.aload_n 0, 1) := by decide +kernel
theorem d_SC_write_39 : decode b_SC_write 39 = .ok (.getfield 19, 3) := by decide +kernel
theorem d_SC_write_42 : decode b_SC_write 42 = .ok (.lload_n 1, 1) := by decide +kernel
theorem d_SC_write_43 : decode b_SC_write 43 = .ok (.bipush 8, 2) := by decide +kernel
theorem d_SC_write_45 : decode b_SC_write 45 = .ok (.iload 4, 2) := by decide +kernel
theorem d_SC_write_47 : decode b_SC_write 47 = .ok (.imul, 1) := by decide +kernel
theorem d_SC_write_48 : decode b_SC_write 48 = .ok (.lshr, 1) := by decide +kernel
theorem d_SC_write_49 : decode b_SC_write 49 = .ok (.l2i, 1) := by decide +kernel
theorem d_SC_write_50 : decode b_SC_write 50 = .ok (.sipush 255, 3) := by decide +kernel
theorem d_SC_write_53 : decode b_SC_write 53 = .ok (.iand, 1) := by decide +kernel
theorem d_SC_write_54 : decode b_SC_write 54 = .ok (.invokevirtual 47, 3) := by decide +kernel
theorem d_SC_write_57 : decode b_SC_write 57 = .ok (.iinc 4 (-1), 3) := by decide +kernel
theorem d_SC_write_60 : decode b_SC_write 60 = .ok (.goto (-27), 3) := by decide +kernel
theorem d_SC_write_63 : decode b_SC_write 63 = .ok (.iconst 1, 1) := by decide +kernel
theorem d_SC_write_64 : decode b_SC_write 64 = .ok (.ireturn, 1) := by decide +kernel
theorem d_SC_cell_0 : decode b_SC_cell 0 = .ok (.aload_n 0, 1) := by decide +kernel
theorem d_SC_cell_1 : decode b_SC_cell 1 = .ok (.getfield 26, 3) := by decide +kernel
theorem d_SC_cell_4 : decode b_SC_cell 4 = .ok (.iload_n 1, 1) := by decide +kernel
theorem d_SC_cell_5 : decode b_SC_cell 5 = .ok (.invokevirtual 122, 3) := by decide +kernel
theorem d_SC_cell_8 : decode b_SC_cell 8 = .ok (.ifCond .ne 5, 3) := by decide +kernel
theorem d_SC_cell_11 : decode b_SC_cell 11 = .ok (.iconst (-1), 1) := by decide +kernel
theorem d_SC_cell_12 : decode b_SC_cell 12 = .ok (.ireturn, 1) := by decide +kernel
theorem d_SC_cell_13 : decode b_SC_cell 13 = .ok (.iload_n 2, 1) := by decide +kernel
theorem d_SC_cell_14 : decode b_SC_cell 14 = .ok (.tableswitch 53 0 2 #[26, 35, 44], 26) := by decide +kernel
theorem d_SC_cell_40 : decode b_SC_cell 40 = .ok (.aload_n 0, 1) := by decide +kernel
theorem d_SC_cell_41 : decode b_SC_cell 41 = .ok (.getfield 26, 3) := by decide +kernel
theorem d_SC_cell_44 : decode b_SC_cell 44 = .ok (.iload_n 1, 1) := by decide +kernel
theorem d_SC_cell_45 : decode b_SC_cell 45 = .ok (.invokevirtual 125, 3) := by decide +kernel
theorem d_SC_cell_48 : decode b_SC_cell 48 = .ok (.ireturn, 1) := by decide +kernel
theorem d_SC_cell_49 : decode b_SC_cell 49 = .ok (.aload_n 0, 1) := by decide +kernel
theorem d_SC_cell_50 : decode b_SC_cell 50 = .ok (.getfield 26, 3) := by decide +kernel
theorem d_SC_cell_53 : decode b_SC_cell 53 = .ok (.iload_n 1, 1) := by decide +kernel
theorem d_SC_cell_54 : decode b_SC_cell 54 = .ok (.invokevirtual 128, 3) := by decide +kernel
theorem d_SC_cell_57 : decode b_SC_cell 57 = .ok (.ireturn, 1) := by decide +kernel
theorem d_SC_cell_58 : decode b_SC_cell 58 = .ok (.aload_n 0, 1) := by decide +kernel
theorem d_SC_cell_59 : decode b_SC_cell 59 = .ok (.getfield 26, 3) := by decide +kernel
theorem d_SC_cell_62 : decode b_SC_cell 62 = .ok (.iload_n 1, 1) := by decide +kernel
theorem d_SC_cell_63 : decode b_SC_cell 63 = .ok (.invokevirtual 131, 3) := by decide +kernel
theorem d_SC_cell_66 : decode b_SC_cell 66 = .ok (.ireturn, 1) := by decide +kernel
theorem d_SC_cell_67 : decode b_SC_cell 67 = .ok (.iconst (-1), 1) := by decide +kernel
theorem d_SC_cell_68 : decode b_SC_cell 68 = .ok (.ireturn, 1) := by decide +kernel
abbrev rm_SC_at : Room := { frames := 0, cells := 0, slots := 0, locals := 0 }
set_option maxHeartbeats 4000000 in
set_option maxRecDepth 100000 in
theorem c_SC_at (l : Launch) (D : va_G) (cI cB cZ : ClassId) (g : Nat) (qc : Nat) (qp : Nat) (qi : Nat) (qs : Nat) (qr : Nat) (qo : Nat) (qx : Nat) (ps : Int) : Met l y_SC_at (.code y_SC_at b_SC_at 1 (some .int) :: zT) rm_SC_at (zRc D classes (TY cI cB cZ) [(g, .inr (3, [.ref qc, .ref qp, .ref qi, .ref qs, .ref qr, .ref qo, .ref qx, .int (iZ ps)]))] [.ref g]) (zSi (fun z => z = ps)) 0 0 (fun _ => False) := by
  refine z_ofr (by decide) (Nat.le_of_ble_eq_true rfl) (Or.inl rfl) ?_
  intro p e s m args below meth c Q E jP jK jret ls jl
  obtain ⟨jx, jb, jrt, jml, jown, jts, jlk⟩ := E
  have jown : s.vm.findClass R_SC = some m.cls := jown
  have jl : lv_has ls 1 [(0, .ref g)] := jl
  refine lv_aload_n jx jb d_SC_at_0 rfl (lv_at jl 0 rfl) ?_
  refine va_get (D := D) (ci := 3) (v := .int (iZ ps)) (C := R_SC) (T := F_SC) (N := 8) jx jb jts i_SC jown jK.1 jP 0 rfl rfl 7 (by decide) (jts _ fl_SC_55) (fun _ h9 => h9) rfl d_SC_at_1 ?_
  exact jret _ _ _ (Or.inl rfl) (rfl) d_SC_at_4
abbrev rm_SC_size : Room := { frames := 1, cells := 0, slots := 0, locals := 20 }
set_option maxHeartbeats 4000000 in
set_option maxRecDepth 100000 in
theorem c_SC_size (l : Launch) (D : va_G) (cI cB cZ : ClassId) (g : Nat) (qc : Nat) (qp : Nat) (qi : Nat) (qs : Nat) (qr : Nat) (qo : Nat) (qx : Nat) (ps : Int) (bo : Nat) (Lo : Int) (hdo : Int) (hno : Int) (ovo : Int) (tso : Int) (tbo : Int) : Met l y_SC_size (.code y_SC_size b_SC_size 1 (some .int) :: zT) rm_SC_size (zRc D classes (TY cI cB cZ) [(g, .inr (3, [.ref qc, .ref qp, .ref qi, .ref qs, .ref qr, .ref qo, .ref qx, .int (iZ ps)])), (qo, .inr (0, [.ref bo, .int (iZ Lo), .int (iZ hdo), .int (iZ hno), .int (iZ ovo), .int (iZ tso), .int (iZ tbo)]))] [.ref g]) (zSi (fun z => z = Lo)) 0 0 (fun _ => False) := by
  refine z_ofr (by decide) (Nat.le_of_ble_eq_true rfl) (Or.inl rfl) ?_
  intro p e s m args below meth c Q E jP jK jret ls jl
  obtain ⟨jx, jb, jrt, jml, jown, jts, jlk⟩ := E
  have jown : s.vm.findClass R_SC = some m.cls := jown
  have jl : lv_has ls 1 [(0, .ref g)] := jl
  refine lv_aload_n jx jb d_SC_size_0 rfl (lv_at jl 0 rfl) ?_
  refine va_get (D := D) (ci := 3) (v := .ref qo) (C := R_SC) (T := F_SC) (N := 8) jx jb jts i_SC jown jK.1 jP 0 rfl rfl 5 (by decide) (jts _ fl_SC_37) (fun _ h9 => h9) rfl d_SC_size_1 ?_
  refine z_backe (va_runV (As := []) (rest := []) ⟨jx, jb, jml, jown, jts⟩ (c_Row_length l D cI cB cZ qo bo Lo hdo hno ovo tso tbo) (zc_V 0 jts cd_Row_length lk_SC_43 im_Row_length se_Row_length in_Row hd_Row_length ⟨Nat.le_of_ble_eq_true rfl, Nat.le_of_ble_eq_true rfl⟩ rfl rfl) (z_preVR jK jP [1] rfl rfl rfl) rfl rfl jl.1 rfl (lv_room (Nat.le_of_ble_eq_true rfl)) d_SC_size_4 ⟨Nat.le_of_ble_eq_true rfl, Nat.le_of_ble_eq_true rfl⟩) ?_
  exact jret _ _ _ (Or.inl rfl) (rfl) d_SC_size_7
abbrev rm_SC_byteAt : Room := { frames := 1, cells := 0, slots := 0, locals := 21 }
set_option maxHeartbeats 4000000 in
set_option maxRecDepth 100000 in
theorem c_SC_byteAt (l : Launch) (D : va_G) (cI cB cZ : ClassId) (g : Nat) (qc : Nat) (qp : Nat) (qi : Nat) (qs : Nat) (qr : Nat) (qo : Nat) (qx : Nat) (ps : Int) (bo : Nat) (Lo : Int) (hdo : Int) (hno : Int) (ovo : Int) (tso : Int) (tbo : Int) (fo : Nat → Int) (k : Int) (hLo : 0 ≤ Lo ∧ Lo ≤ 6000) (hk : -2147483648 ≤ k ∧ k < 2147483648) : Met l y_SC_byteAt (.code y_SC_byteAt b_SC_byteAt 2 (some .int) :: zT) rm_SC_byteAt (zRc D classes (TY cI cB cZ) [(g, .inr (3, [.ref qc, .ref qp, .ref qi, .ref qs, .ref qr, .ref qo, .ref qx, .int (iZ ps)])), (qo, .inr (0, [.ref bo, .int (iZ Lo), .int (iZ hdo), .int (iZ hno), .int (iZ ovo), .int (iZ tso), .int (iZ tbo)])), (bo, .inl (cB, 6000, .inl (zA fo)))] [.ref g, .int (iZ k)]) (zSi (fun z => z = if 0 ≤ k ∧ k < Lo then fo k.toNat % 256 else -1)) 0 0 (fun _ => False) := by
  refine z_ofr (by decide) (Nat.le_of_ble_eq_true rfl) (Or.inl rfl) ?_
  intro p e s m args below meth c Q E jP jK jret ls jl
  obtain ⟨jx, jb, jrt, jml, jown, jts, jlk⟩ := E
  have jown : s.vm.findClass R_SC = some m.cls := jown
  have jl : lv_has ls 2 [(0, .ref g), (1, .int (iZ k))] := jl
  refine lv_iload_n jx jb d_SC_byteAt_0 rfl (lv_at jl 1 rfl) ?_
  refine z_if_lt (tgt := 15) jx jb d_SC_byteAt_1 (by decide) ⟨by omega, by omega⟩ (fun hc1 => ?_) (fun hc1 => ?_)
  ·
    refine lv_iconst (v := iZ (-1)) jx jb d_SC_byteAt_15 rfl ?_
    refine lv_goto (tgt := 27) jx jb d_SC_byteAt_16 (by decide) ?_
    exact jret _ _ _ (Or.inl rfl) (by first | exact (if_neg (by omega)).symm | (rw [if_pos (by omega)]; exact if_pos (by omega))) d_SC_byteAt_27
  ·
    refine lv_iload_n jx jb d_SC_byteAt_4 rfl (lv_at jl 1 rfl) ?_
    refine lv_aload_n jx jb d_SC_byteAt_5 rfl (lv_at jl 0 rfl) ?_
    refine va_get (D := D) (ci := 3) (v := .ref qo) (C := R_SC) (T := F_SC) (N := 8) jx jb jts i_SC jown jK.1 jP 0 rfl rfl 5 (by decide) (jts _ fl_SC_37) (fun _ h9 => h9) rfl d_SC_byteAt_6 ?_
    refine z_backe (va_runV (As := []) (rest := [.int (iZ k)]) ⟨jx, jb, jml, jown, jts⟩ (c_Row_length l D cI cB cZ qo bo Lo hdo hno ovo tso tbo) (zc_V 0 jts cd_Row_length lk_SC_43 im_Row_length se_Row_length in_Row hd_Row_length ⟨Nat.le_of_ble_eq_true rfl, Nat.le_of_ble_eq_true rfl⟩ rfl rfl) (z_preVR jK jP [1] rfl rfl rfl) rfl rfl jl.1 rfl (lv_room (Nat.le_of_ble_eq_true rfl)) d_SC_byteAt_9 ⟨Nat.le_of_ble_eq_true rfl, Nat.le_of_ble_eq_true rfl⟩) ?_
    refine z_icmp_lt (tgt := 19) jx jb d_SC_byteAt_12 (by decide) ⟨⟨by omega, by omega⟩, ⟨by omega, by omega⟩⟩ (fun hc12 => ?_) (fun hc12 => ?_)
    ·
      refine lv_aload_n jx jb d_SC_byteAt_19 rfl (lv_at jl 0 rfl) ?_
      refine va_get (D := D) (ci := 3) (v := .ref qo) (C := R_SC) (T := F_SC) (N := 8) jx jb jts i_SC jown jK.1 jP 0 rfl rfl 5 (by decide) (jts _ fl_SC_37) (fun _ h9 => h9) rfl d_SC_byteAt_20 ?_
      refine lv_iload_n jx jb d_SC_byteAt_23 rfl (lv_at jl 1 rfl) ?_
      refine z_backe (va_runV (As := [.int (iZ k)]) (rest := []) ⟨jx, jb, jml, jown, jts⟩ (c_Row_byteOrZero l D cI cB cZ qo bo Lo hdo hno ovo tso tbo fo k (by first | assumption | omega) (by first | assumption | omega)) (zc_V 1 jts cd_Row_byteOrZero lk_SC_73 im_Row_byteOrZero se_Row_byteOrZero in_Row hd_Row_byteOrZero ⟨Nat.le_of_ble_eq_true rfl, Nat.le_of_ble_eq_true rfl⟩ rfl rfl) (z_preVR jK jP [1, 2] rfl rfl rfl) rfl rfl jl.1 rfl (lv_room (Nat.le_of_ble_eq_true rfl)) d_SC_byteAt_24 ⟨Nat.le_of_ble_eq_true rfl, Nat.le_of_ble_eq_true rfl⟩) ?_
      exact jret _ _ _ (Or.inl rfl) (by first | exact (if_neg (by omega)).symm | (rw [if_pos (by omega)]; exact if_pos (by omega))) d_SC_byteAt_27
    ·
      refine lv_iconst (v := iZ (-1)) jx jb d_SC_byteAt_15 rfl ?_
      refine lv_goto (tgt := 27) jx jb d_SC_byteAt_16 (by decide) ?_
      exact jret _ _ _ (Or.inl rfl) (by first | exact (if_neg (by omega)).symm | (rw [if_pos (by omega)]; exact if_pos (by omega))) d_SC_byteAt_27
abbrev rm_SC_place : Room := { frames := 1, cells := 0, slots := 0, locals := 20 }
set_option maxHeartbeats 4000000 in
set_option maxRecDepth 100000 in
theorem c_SC_place (l : Launch) (D : va_G) (cI cB cZ : ClassId) (sz : Nat) (g : Nat) (qc : Nat) (qp : Nat) (qi : Nat) (qs : Nat) (qr : Nat) (qo : Nat) (qx : Nat) (ps : Int) (bi : Nat) (Li : Int) (hdi : Int) (hni : Int) (ovi : Int) (tsi : Int) (tbi : Int) (x : Int) (hLi : 0 ≤ Li ∧ Li ≤ 6000) (hx1 : -2147483648 ≤ x ∧ x < 2147483648) : Met l y_SC_place (.code y_SC_place b_SC_place 2 (some .boolean) :: zT) rm_SC_place (zPc D classes (TY cI cB cZ) [(g, .inr (3, [.ref qc, .ref qp, .ref qi, .ref qs, .ref qr, .ref qo, .ref qx, .int (iZ ps)])), (qi, .inr (0, [.ref bi, .int (iZ Li), .int (iZ hdi), .int (iZ hni), .int (iZ ovi), .int (iZ tsi), .int (iZ tbi)]))] sz [.ref g, .int (iZ x)]) (zFi (S := Int) D classes (fun z u => (z = 1 ∧ 0 ≤ x ∧ x ≤ Li ∧ u = x) ∨ (z = 0 ∧ (x < 0 ∨ Li < x) ∧ u = ps)) (fun u => [(g, .inr (3, [.ref qc, .ref qp, .ref qi, .ref qs, .ref qr, .ref qo, .ref qx, .int (iZ u)])), (qi, .inr (0, [.ref bi, .int (iZ Li), .int (iZ hdi), .int (iZ hni), .int (iZ ovi), .int (iZ tsi), .int (iZ tbi)]))]) (va_A [(g, .inr (3, [.ref qc, .ref qp, .ref qi, .ref qs, .ref qr, .ref qo, .ref qx, .int (iZ ps)])), (qi, .inr (0, [.ref bi, .int (iZ Li), .int (iZ hdi), .int (iZ hni), .int (iZ ovi), .int (iZ tsi), .int (iZ tbi)]))] sz)) 0 0 (va_A [(g, .inr (3, [.ref qc, .ref qp, .ref qi, .ref qs, .ref qr, .ref qo, .ref qx, .int (iZ ps)])), (qi, .inr (0, [.ref bi, .int (iZ Li), .int (iZ hdi), .int (iZ hni), .int (iZ ovi), .int (iZ tsi), .int (iZ tbi)]))] sz) := by
  refine z_ofi (by decide) (Nat.le_of_ble_eq_true rfl) (Or.inr rfl) ?_
  intro p e s m args below meth c A Q E jA jK jret H locs jP jD jS ls jl
  obtain ⟨jx, jb, jrt, jml, jown, jts, jlk⟩ := E
  have jown : s.vm.findClass R_SC = some m.cls := jown
  have jl : lv_has ls 2 [(0, .ref g), (1, .int (iZ x))] := jl
  refine lv_iload_n jx jb d_SC_place_0 rfl (lv_at jl 1 rfl) ?_
  refine z_if_lt (tgt := 15) jx jb d_SC_place_1 (by decide) ⟨by omega, by omega⟩ (fun hc1 => ?_) (fun hc1 => ?_)
  ·
    refine lv_iconst (v := iZ 0) jx jb d_SC_place_15 rfl ?_
    exact jret _ _ _ (ps) _ _ (Or.inr (Or.inl rfl)) (by omega) (jP.sub [0, 1] rfl) (jD.sub [0, 1] (by decide) rfl) jS d_SC_place_16
  ·
    refine lv_iload_n jx jb d_SC_place_4 rfl (lv_at jl 1 rfl) ?_
    refine lv_aload_n jx jb d_SC_place_5 rfl (lv_at jl 0 rfl) ?_
    refine va_get (D := D) (ci := 3) (v := .ref qi) (C := R_SC) (T := F_SC) (N := 8) jx jb jts i_SC jown jK.1 jP 0 rfl rfl 2 (by decide) (jts _ fl_SC_19) (fun _ h9 => h9) rfl d_SC_place_6 ?_
    refine z_backe (va_runV (As := []) (rest := [.int (iZ x)]) ⟨jx, jb, jml, jown, jts⟩ (c_Row_length l D cI cB cZ qi bi Li hdi hni ovi tsi tbi) (zc_V 0 jts cd_Row_length lk_SC_43 im_Row_length se_Row_length in_Row hd_Row_length ⟨Nat.le_of_ble_eq_true rfl, Nat.le_of_ble_eq_true rfl⟩ rfl rfl) (z_preVR jK jP [1] rfl rfl rfl) rfl rfl jl.1 rfl (lv_room (Nat.le_of_ble_eq_true rfl)) d_SC_place_9 ⟨Nat.le_of_ble_eq_true rfl, Nat.le_of_ble_eq_true rfl⟩) ?_
    refine z_icmp_le (tgt := 17) jx jb d_SC_place_12 (by decide) ⟨⟨by omega, by omega⟩, ⟨by omega, by omega⟩⟩ (fun hc12 => ?_) (fun hc12 => ?_)
    ·
      refine lv_aload_n jx jb d_SC_place_17 rfl (lv_at jl 0 rfl) ?_
      refine lv_iload_n jx jb d_SC_place_18 rfl (lv_at jl 1 rfl) ?_
      refine va_put (D := D) (ci := 3) (v := .int (iZ x)) (ty := .int) (C := R_SC) (T := F_SC) (N := 8) jx jb jts i_SC t_SC t_SC_ok n_SC jown jK.1 jP jD jS 0 rfl rfl 7 (by decide) (jts _ fl_SC_55) (fun _ h9 => h9) rfl (by decide +kernel) rfl rfl (Nat.le_of_ble_eq_true rfl) d_SC_place_19 (fun H locs jP jD jS => ?_)
      have jP : va_P D classes [(g, .inr (3, [.ref qc, .ref qp, .ref qi, .ref qs, .ref qr, .ref qo, .ref qx, .int (iZ x)])), (qi, .inr (0, [.ref bi, .int (iZ Li), .int (iZ hdi), .int (iZ hni), .int (iZ ovi), .int (iZ tsi), .int (iZ tbi)]))] H := jP
      have jD : va_D A [(g, .inr (3, [.ref qc, .ref qp, .ref qi, .ref qs, .ref qr, .ref qo, .ref qx, .int (iZ x)])), (qi, .inr (0, [.ref bi, .int (iZ Li), .int (iZ hdi), .int (iZ hni), .int (iZ ovi), .int (iZ tsi), .int (iZ tbi)]))] := jD
      refine lv_iconst (v := iZ 1) jx jb d_SC_place_22 rfl ?_
      exact jret _ _ _ (x) _ _ (Or.inr (Or.inr rfl)) (by omega) (jP.sub [0, 1] rfl) (jD.sub [0, 1] (by decide) rfl) jS d_SC_place_23
    ·
      refine lv_iconst (v := iZ 0) jx jb d_SC_place_15 rfl ?_
      exact jret _ _ _ (ps) _ _ (Or.inr (Or.inl rfl)) (by omega) (jP.sub [0, 1] rfl) (jD.sub [0, 1] (by decide) rfl) jS d_SC_place_16
abbrev rm_SC_count : Room := { frames := 1, cells := 0, slots := 0, locals := 20 }
set_option maxHeartbeats 4000000 in
set_option maxRecDepth 100000 in
theorem c_SC_count (l : Launch) (D : va_G) (cI cB cZ : ClassId) (sz : Nat) (g : Nat) (qc : Nat) (qp : Nat) (qi : Nat) (qs : Nat) (qr : Nat) (qo : Nat) (qx : Nat) (ps : Int) (fc : Nat → Int) (x : Int) (y : Int) (hx1 : -2147483648 ≤ x ∧ x < 2147483648) (hy1 : -2147483648 ≤ y ∧ y < 2147483648) : Met l y_SC_count (.code y_SC_count b_SC_count 3 (some .boolean) :: zT) rm_SC_count (zPc D classes (TY cI cB cZ) [(g, .inr (3, [.ref qc, .ref qp, .ref qi, .ref qs, .ref qr, .ref qo, .ref qx, .int (iZ ps)])), (qc, .inl (cI, 256, .inl (zA fc)))] sz [.ref g, .int (iZ x), .int (iZ y)]) (zFi (S := Nat → Int) D classes (fun z u => (z = 1 ∧ (0 ≤ x ∧ x < 256 ∧ 0 ≤ y ∧ y ≤ 65535) ∧ u = zu fc x.toNat y) ∨ (z = 0 ∧ ¬ (0 ≤ x ∧ x < 256 ∧ 0 ≤ y ∧ y ≤ 65535) ∧ u = fc)) (fun u => [(g, .inr (3, [.ref qc, .ref qp, .ref qi, .ref qs, .ref qr, .ref qo, .ref qx, .int (iZ ps)])), (qc, .inl (cI, 256, .inl (zA u)))]) (va_A [(g, .inr (3, [.ref qc, .ref qp, .ref qi, .ref qs, .ref qr, .ref qo, .ref qx, .int (iZ ps)])), (qc, .inl (cI, 256, .inl (zA fc)))] sz)) 0 0 (va_A [(g, .inr (3, [.ref qc, .ref qp, .ref qi, .ref qs, .ref qr, .ref qo, .ref qx, .int (iZ ps)])), (qc, .inl (cI, 256, .inl (zA fc)))] sz) := by
  refine z_ofi (by decide) (Nat.le_of_ble_eq_true rfl) (Or.inr rfl) ?_
  intro p e s m args below meth c A Q E jA jK jret H locs jP jD jS ls jl
  obtain ⟨jx, jb, jrt, jml, jown, jts, jlk⟩ := E
  have jown : s.vm.findClass R_SC = some m.cls := jown
  have jl : lv_has ls 3 [(0, .ref g), (1, .int (iZ x)), (2, .int (iZ y))] := jl
  refine lv_iload_n jx jb d_SC_count_0 rfl (lv_at jl 1 rfl) ?_
  refine z_backr (va_runS (As := [.int (iZ x)]) (rest := []) ⟨jx, jb, jml, jown, jts⟩ (c_isSymbol l D cI cB cZ x (by first | assumption | omega)) (zc_S 1 jts cd_SC_isSymbol lk_SC_68 st_SC_isSymbol in_SC hd_SC_isSymbol ⟨Nat.le_of_ble_eq_true rfl, Nat.le_of_ble_eq_true rfl⟩ rfl rfl) (z_preSR jK jP [] rfl) rfl rfl jl.1 rfl (lv_room (Nat.le_of_ble_eq_true rfl)) d_SC_count_1 ⟨Nat.le_of_ble_eq_true rfl, Nat.le_of_ble_eq_true rfl⟩) (fun z1 hz1 => ?_)
  rcases hz1 with ⟨rfl, hq1⟩ | ⟨rfl, hq1⟩
  ·
    refine z_if_eq (tgt := 17) jx jb d_SC_count_4 (by decide) ⟨by decide, by decide⟩ (fun hc4 => ?_) (fun hc4 => ?_)
    ·
      exact absurd hc4 (by decide)
    ·
      refine lv_iload_n jx jb d_SC_count_7 rfl (lv_at jl 2 rfl) ?_
      refine z_if_lt (tgt := 17) jx jb d_SC_count_8 (by decide) ⟨by omega, by omega⟩ (fun hc8 => ?_) (fun hc8 => ?_)
      ·
        refine lv_iconst (v := iZ 0) jx jb d_SC_count_17 rfl ?_
        exact jret _ _ _ (fc) _ _ (Or.inr (Or.inl rfl)) (Or.inr ⟨rfl, by omega, rfl⟩) (jP.sub [0, 1] rfl) (jD.sub [0, 1] (by decide) rfl) jS d_SC_count_18
      ·
        refine lv_iload_n jx jb d_SC_count_11 rfl (lv_at jl 2 rfl) ?_
        refine lv_ldc (v := iZ 65535) jx jb jown (jts _ cn_SC_72) d_SC_count_12 ?_
        refine z_icmp_le (tgt := 19) jx jb d_SC_count_14 (by decide) ⟨⟨by omega, by omega⟩, ⟨by decide, by decide⟩⟩ (fun hc14 => ?_) (fun hc14 => ?_)
        ·
          refine lv_aload_n jx jb d_SC_count_19 rfl (lv_at jl 0 rfl) ?_
          refine va_get (D := D) (ci := 3) (v := .ref qc) (C := R_SC) (T := F_SC) (N := 8) jx jb jts i_SC jown jK.1 jP 0 rfl rfl 0 (by decide) (jts _ fl_SC_9) (fun _ h9 => h9) rfl d_SC_count_20 ?_
          refine lv_iload_n jx jb d_SC_count_23 rfl (lv_at jl 1 rfl) ?_
          refine lv_iload_n jx jb d_SC_count_24 rfl (lv_at jl 2 rfl) ?_
          refine z_iast jx jb jK.1 jP jD jS 1 0 rfl rfl x.toNat (by omega) d_SC_count_25 (fun H locs jP jD jS => ?_)
          have jP : va_P D classes [(g, .inr (3, [.ref qc, .ref qp, .ref qi, .ref qs, .ref qr, .ref qo, .ref qx, .int (iZ ps)])), (qc, .inl (cI, 256, .inl (zA (zu fc x.toNat y))))] H := jP
          have jD : va_D A [(g, .inr (3, [.ref qc, .ref qp, .ref qi, .ref qs, .ref qr, .ref qo, .ref qx, .int (iZ ps)])), (qc, .inl (cI, 256, .inl (zA (zu fc x.toNat y))))] := jD
          refine lv_iconst (v := iZ 1) jx jb d_SC_count_26 rfl ?_
          exact jret _ _ _ ((zu fc x.toNat y)) _ _ (Or.inr (Or.inr rfl)) (Or.inl ⟨rfl, by omega, rfl⟩) (jP.sub [0, 1] rfl) (jD.sub [0, 1] (by decide) rfl) jS d_SC_count_27
        ·
          refine lv_iconst (v := iZ 0) jx jb d_SC_count_17 rfl ?_
          exact jret _ _ _ (fc) _ _ (Or.inr (Or.inl rfl)) (Or.inr ⟨rfl, by omega, rfl⟩) (jP.sub [0, 1] rfl) (jD.sub [0, 1] (by decide) rfl) jS d_SC_count_18
  ·
    refine z_if_eq (tgt := 17) jx jb d_SC_count_4 (by decide) ⟨by decide, by decide⟩ (fun hc4 => ?_) (fun hc4 => ?_)
    ·
      refine lv_iconst (v := iZ 0) jx jb d_SC_count_17 rfl ?_
      exact jret _ _ _ (fc) _ _ (Or.inr (Or.inl rfl)) (Or.inr ⟨rfl, by omega, rfl⟩) (jP.sub [0, 1] rfl) (jD.sub [0, 1] (by decide) rfl) jS d_SC_count_18
    ·
      exact absurd hc4 (by decide)
abbrev rm_SC_turn : Room := { frames := 2, cells := 0, slots := 0, locals := 81 }
set_option maxHeartbeats 4000000 in
set_option maxRecDepth 100000 in
theorem c_SC_turn (l : Launch) (D : va_G) (cI cB cZ : ClassId) (sz : Nat) (g : Nat) (qc : Nat) (qp : Nat) (qi : Nat) (qs : Nat) (qr : Nat) (qo : Nat) (qx : Nat) (ps : Int) (bi : Nat) (Li : Int) (hdi : Int) (hni : Int) (ovi : Int) (tsi : Int) (tbi : Int) (bo : Nat) (Lo : Int) (hdo : Int) (hno : Int) (ovo : Int) (tso : Int) (tbo : Int) (fi : Nat → Int) (fo : Nat → Int) (hf : ∀ k, -128 ≤ fo k ∧ fo k < 128) : Met l y_SC_turn (.code y_SC_turn b_SC_turn 1 none :: zT) rm_SC_turn (zPc D classes (TY cI cB cZ) [(g, .inr (3, [.ref qc, .ref qp, .ref qi, .ref qs, .ref qr, .ref qo, .ref qx, .int (iZ ps)])), (qi, .inr (0, [.ref bi, .int (iZ Li), .int (iZ hdi), .int (iZ hni), .int (iZ ovi), .int (iZ tsi), .int (iZ tbi)])), (bi, .inl (cB, 6000, .inl (zA fi))), (qo, .inr (0, [.ref bo, .int (iZ Lo), .int (iZ hdo), .int (iZ hno), .int (iZ ovo), .int (iZ tso), .int (iZ tbo)])), (bo, .inl (cB, 6000, .inl (zA fo)))] sz [.ref g]) (zFv (S := Unit) D classes (fun _u => True) (fun _u => [(g, .inr (3, [.ref qc, .ref qp, .ref qi, .ref qs, .ref qr, .ref qo, .ref qx, .int (iZ 0)])), (qi, .inr (0, [.ref bi, .int (iZ Lo), .int (iZ 0), .int (iZ 0), .int (iZ 0), .int (iZ tsi), .int (iZ tbi)])), (bi, .inl (cB, 6000, .inl (zA (fun k => if k < 6000 then fo k else fi k)))), (qo, .inr (0, [.ref bo, .int (iZ Lo), .int (iZ hdo), .int (iZ hno), .int (iZ ovo), .int (iZ tso), .int (iZ tbo)])), (bo, .inl (cB, 6000, .inl (zA fo)))]) (va_A [(g, .inr (3, [.ref qc, .ref qp, .ref qi, .ref qs, .ref qr, .ref qo, .ref qx, .int (iZ ps)])), (qi, .inr (0, [.ref bi, .int (iZ Li), .int (iZ hdi), .int (iZ hni), .int (iZ ovi), .int (iZ tsi), .int (iZ tbi)])), (bi, .inl (cB, 6000, .inl (zA fi))), (qo, .inr (0, [.ref bo, .int (iZ Lo), .int (iZ hdo), .int (iZ hno), .int (iZ ovo), .int (iZ tso), .int (iZ tbo)])), (bo, .inl (cB, 6000, .inl (zA fo)))] sz)) 0 0 (va_A [(g, .inr (3, [.ref qc, .ref qp, .ref qi, .ref qs, .ref qr, .ref qo, .ref qx, .int (iZ ps)])), (qi, .inr (0, [.ref bi, .int (iZ Li), .int (iZ hdi), .int (iZ hni), .int (iZ ovi), .int (iZ tsi), .int (iZ tbi)])), (bi, .inl (cB, 6000, .inl (zA fi))), (qo, .inr (0, [.ref bo, .int (iZ Lo), .int (iZ hdo), .int (iZ hno), .int (iZ ovo), .int (iZ tso), .int (iZ tbo)])), (bo, .inl (cB, 6000, .inl (zA fo)))] sz) := by
  refine z_ofv (by decide) (Nat.le_of_ble_eq_true rfl) rfl ?_
  intro p e s m args below meth c A Q E jmn jA jK jret H locs jP jD jS ls jl
  obtain ⟨jx, jb, jrt, jml, jown, jts, jlk⟩ := E
  have jown : s.vm.findClass R_SC = some m.cls := jown
  have jl : lv_has ls 1 [(0, .ref g)] := jl
  refine lv_aload_n jx jb d_SC_turn_0 rfl (lv_at jl 0 rfl) ?_
  refine va_get (D := D) (ci := 3) (v := .ref qi) (C := R_SC) (T := F_SC) (N := 8) jx jb jts i_SC jown jK.1 jP 0 rfl rfl 2 (by decide) (jts _ fl_SC_19) (fun _ h9 => h9) rfl d_SC_turn_1 ?_
  refine lv_aload_n jx jb d_SC_turn_4 rfl (lv_at jl 0 rfl) ?_
  refine va_get (D := D) (ci := 3) (v := .ref qo) (C := R_SC) (T := F_SC) (N := 8) jx jb jts i_SC jown jK.1 jP 0 rfl rfl 5 (by decide) (jts _ fl_SC_37) (fun _ h9 => h9) rfl d_SC_turn_5 ?_
  refine z_backv (wr := [(g, .inr (3, [.ref qc, .ref qp, .ref qi, .ref qs, .ref qr, .ref qo, .ref qx, .int (iZ ps)]))]) jP jD jS jA [1, 2, 3, 4] [0] rfl rfl (by decide) (by decide) (va_runV (As := [.ref qo]) (rest := []) ⟨jx, jb, jml, jown, jts⟩ (c_Row_copyFrom l D cI cB cZ H.size qi bi Li hdi hni ovi tsi tbi fi qo bo Lo hdo hno ovo tso tbo fo (by first | assumption | omega)) (zc_V 1 jts cd_Row_copyFrom lk_SC_51 im_Row_copyFrom se_Row_copyFrom in_Row hd_Row_copyFrom ⟨Nat.le_of_ble_eq_true rfl, Nat.le_of_ble_eq_true rfl⟩ rfl rfl) (z_preV jK jP jD [1, 2, 3, 4] (by decide) rfl rfl rfl rfl) rfl rfl jl.1 rfl (lv_room (Nat.le_of_ble_eq_true rfl)) d_SC_turn_8 ⟨Nat.le_of_ble_eq_true rfl, Nat.le_of_ble_eq_true rfl⟩) (fun u8 H locs hu8 jP jD jS => ?_)
  have jP : va_P D classes [(g, .inr (3, [.ref qc, .ref qp, .ref qi, .ref qs, .ref qr, .ref qo, .ref qx, .int (iZ ps)])), (qi, .inr (0, [.ref bi, .int (iZ Lo), .int (iZ 0), .int (iZ 0), .int (iZ 0), .int (iZ tsi), .int (iZ tbi)])), (bi, .inl (cB, 6000, .inl (zA (fun k => if k < 6000 then fo k else fi k)))), (qo, .inr (0, [.ref bo, .int (iZ Lo), .int (iZ hdo), .int (iZ hno), .int (iZ ovo), .int (iZ tso), .int (iZ tbo)])), (bo, .inl (cB, 6000, .inl (zA fo)))] H := jP.sub [0, 1, 2, 3, 4] rfl
  have jD : va_D A [(g, .inr (3, [.ref qc, .ref qp, .ref qi, .ref qs, .ref qr, .ref qo, .ref qx, .int (iZ ps)])), (qi, .inr (0, [.ref bi, .int (iZ Lo), .int (iZ 0), .int (iZ 0), .int (iZ 0), .int (iZ tsi), .int (iZ tbi)])), (bi, .inl (cB, 6000, .inl (zA (fun k => if k < 6000 then fo k else fi k)))), (qo, .inr (0, [.ref bo, .int (iZ Lo), .int (iZ hdo), .int (iZ hno), .int (iZ ovo), .int (iZ tso), .int (iZ tbo)])), (bo, .inl (cB, 6000, .inl (zA fo)))] := jD.sub [0, 1, 2, 3, 4] (by decide) rfl
  refine lv_aload_n jx jb d_SC_turn_11 rfl (lv_at jl 0 rfl) ?_
  refine lv_iconst (v := iZ 0) jx jb d_SC_turn_12 rfl ?_
  refine va_put (D := D) (ci := 3) (v := .int (iZ 0)) (ty := .int) (C := R_SC) (T := F_SC) (N := 8) jx jb jts i_SC t_SC t_SC_ok n_SC jown jK.1 jP jD jS 0 rfl rfl 7 (by decide) (jts _ fl_SC_55) (fun _ h9 => h9) rfl (by decide +kernel) rfl rfl (Nat.le_of_ble_eq_true rfl) d_SC_turn_13 (fun H locs jP jD jS => ?_)
  have jP : va_P D classes [(g, .inr (3, [.ref qc, .ref qp, .ref qi, .ref qs, .ref qr, .ref qo, .ref qx, .int (iZ 0)])), (qi, .inr (0, [.ref bi, .int (iZ Lo), .int (iZ 0), .int (iZ 0), .int (iZ 0), .int (iZ tsi), .int (iZ tbi)])), (bi, .inl (cB, 6000, .inl (zA (fun k => if k < 6000 then fo k else fi k)))), (qo, .inr (0, [.ref bo, .int (iZ Lo), .int (iZ hdo), .int (iZ hno), .int (iZ ovo), .int (iZ tso), .int (iZ tbo)])), (bo, .inl (cB, 6000, .inl (zA fo)))] H := jP
  have jD : va_D A [(g, .inr (3, [.ref qc, .ref qp, .ref qi, .ref qs, .ref qr, .ref qo, .ref qx, .int (iZ 0)])), (qi, .inr (0, [.ref bi, .int (iZ Lo), .int (iZ 0), .int (iZ 0), .int (iZ 0), .int (iZ tsi), .int (iZ tbi)])), (bi, .inl (cB, 6000, .inl (zA (fun k => if k < 6000 then fo k else fi k)))), (qo, .inr (0, [.ref bo, .int (iZ Lo), .int (iZ hdo), .int (iZ hno), .int (iZ ovo), .int (iZ tso), .int (iZ tbo)])), (bo, .inl (cB, 6000, .inl (zA fo)))] := jD
  exact jret _ _ () _ _ (trivial) (jP.sub [0, 1, 2, 3, 4] rfl) (jD.sub [0, 1, 2, 3, 4] (by decide) rfl) jS d_SC_turn_16
abbrev rm_SC_about : Room := { frames := 1, cells := 0, slots := 0, locals := 21 }
set_option maxHeartbeats 4000000 in
set_option maxRecDepth 100000 in
theorem c_SC_about (l : Launch) (D : va_G) (cI cB cZ : ClassId) (g : Nat) (qc : Nat) (qp : Nat) (qi : Nat) (qs : Nat) (qr : Nat) (qo : Nat) (qx : Nat) (ps : Int) (pP : Nat) (pS : Nat) (pB : Nat) (pA : Nat) (pC : Nat) (pF : Nat) (pN : Nat) (o : Nat) (gP : Nat → Int) (x : Int) (ho : o ≤ 12) (hpr : ∀ k, k < 256 → -1 ≤ gP k ∧ gP k ≤ 65536) (hx1 : -2147483648 ≤ x ∧ x < 2147483648) : Met l y_SC_about (.code y_SC_about b_SC_about 2 (some .int) :: zT) rm_SC_about (zRc D classes (TY cI cB cZ) [(g, .inr (3, [.ref qc, .ref qp, .ref qi, .ref qs, .ref qr, .ref qo, .ref qx, .int (iZ ps)])), (qs, .inr (1, [.ref pP, .ref pS, .ref pB, .ref pA, .ref pC, .ref pF, .ref pN, .int (iZ (o : Int))])), (pP, .inl (cI, 256, .inl (zA gP)))] [.ref g, .int (iZ x)]) (zSi (fun z => (o = 0 ∧ z = -1) ∨ (0 < o ∧ x = 0 ∧ z = (o : Int)) ∨ (0 < o ∧ x = 1 ∧ ∃ n : Nat, z = (n : Int) ∧ n ≤ 255 ∧ (n = 0 ∨ gP n ≠ 0) ∧ ∀ k, n < k → k ≤ 255 → gP k = 0) ∨ (0 < o ∧ x ≠ 0 ∧ x ≠ 1 ∧ z = -1))) 0 0 (fun _ => False) := by
  refine z_ofr (by decide) (Nat.le_of_ble_eq_true rfl) (Or.inl rfl) ?_
  intro p e s m args below meth c Q E jP jK jret ls jl
  obtain ⟨jx, jb, jrt, jml, jown, jts, jlk⟩ := E
  have jown : s.vm.findClass R_SC = some m.cls := jown
  have jl : lv_has ls 2 [(0, .ref g), (1, .int (iZ x))] := jl
  refine lv_aload_n jx jb d_SC_about_0 rfl (lv_at jl 0 rfl) ?_
  refine va_get (D := D) (ci := 3) (v := .ref qs) (C := R_SC) (T := F_SC) (N := 8) jx jb jts i_SC jown jK.1 jP 0 rfl rfl 3 (by decide) (jts _ fl_SC_26) (fun _ h9 => h9) rfl d_SC_about_1 ?_
  refine z_backr (va_runV (As := []) (rest := []) ⟨jx, jb, jml, jown, jts⟩ (c_Share_exists l D cI cB cZ qs pP pS pB pA pC pF pN o (by first | assumption | omega)) (zc_V 0 jts cd_Share_exists lk_SC_91 im_Share_exists se_Share_exists in_Share hd_Share_exists ⟨Nat.le_of_ble_eq_true rfl, Nat.le_of_ble_eq_true rfl⟩ rfl rfl) (z_preVR jK jP [1] rfl rfl rfl) rfl rfl jl.1 rfl (lv_room (Nat.le_of_ble_eq_true rfl)) d_SC_about_4 ⟨Nat.le_of_ble_eq_true rfl, Nat.le_of_ble_eq_true rfl⟩) (fun z4 hz4 => ?_)
  rcases hz4 with ⟨rfl, hq4⟩ | ⟨rfl, hq4⟩
  ·
    refine z_if_ne (tgt := 12) jx jb d_SC_about_7 (by decide) ⟨by decide, by decide⟩ (fun hc7 => ?_) (fun hc7 => ?_)
    ·
      refine lv_iload_n jx jb d_SC_about_12 rfl (lv_at jl 1 rfl) ?_
      refine z_if_ne (tgt := 24) jx jb d_SC_about_13 (by decide) ⟨by omega, by omega⟩ (fun hc13 => ?_) (fun hc13 => ?_)
      ·
        refine lv_iload_n jx jb d_SC_about_24 rfl (lv_at jl 1 rfl) ?_
        refine lv_iconst (v := iZ 1) jx jb d_SC_about_25 rfl ?_
        refine z_icmp_ne (tgt := 39) jx jb d_SC_about_26 (by decide) ⟨⟨by omega, by omega⟩, ⟨by decide, by decide⟩⟩ (fun hc26 => ?_) (fun hc26 => ?_)
        ·
          refine lv_iconst (v := iZ (-1)) jx jb d_SC_about_39 rfl ?_
          exact jret _ _ _ (Or.inl rfl) (by first | exact Or.inr (Or.inr (Or.inl ⟨by omega, by omega, n33, rfl, hn33, hm33, hq33⟩)) | exact Or.inr (Or.inr (Or.inr ⟨by omega, by omega, by omega, rfl⟩))) d_SC_about_40
        ·
          refine lv_aload_n jx jb d_SC_about_29 rfl (lv_at jl 0 rfl) ?_
          refine va_get (D := D) (ci := 3) (v := .ref qs) (C := R_SC) (T := F_SC) (N := 8) jx jb jts i_SC jown jK.1 jP 0 rfl rfl 3 (by decide) (jts _ fl_SC_26) (fun _ h9 => h9) rfl d_SC_about_30 ?_
          refine z_backr (va_runV (As := []) (rest := []) ⟨jx, jb, jml, jown, jts⟩ (c_Share_lastSymbol l D cI cB cZ qs pP pS pB pA pC pF pN o gP (by first | assumption | omega)) (zc_V 0 jts cd_Share_lastSymbol lk_SC_116 im_Share_lastSymbol se_Share_lastSymbol in_Share hd_Share_lastSymbol ⟨Nat.le_of_ble_eq_true rfl, Nat.le_of_ble_eq_true rfl⟩ rfl rfl) (z_preVR jK jP [1, 2] rfl rfl rfl) rfl rfl jl.1 rfl (lv_room (Nat.le_of_ble_eq_true rfl)) d_SC_about_33 ⟨Nat.le_of_ble_eq_true rfl, Nat.le_of_ble_eq_true rfl⟩) (fun z33 hz33 => ?_)
          obtain ⟨n33, rfl, hn33, hm33, hq33⟩ := hz33
          refine lv_goto (tgt := 40) jx jb d_SC_about_36 (by decide) ?_
          exact jret _ _ _ (Or.inl rfl) (by first | exact Or.inr (Or.inr (Or.inl ⟨by omega, by omega, n33, rfl, hn33, hm33, hq33⟩)) | exact Or.inr (Or.inr (Or.inr ⟨by omega, by omega, by omega, rfl⟩))) d_SC_about_40
      ·
        refine lv_aload_n jx jb d_SC_about_16 rfl (lv_at jl 0 rfl) ?_
        refine va_get (D := D) (ci := 3) (v := .ref qs) (C := R_SC) (T := F_SC) (N := 8) jx jb jts i_SC jown jK.1 jP 0 rfl rfl 3 (by decide) (jts _ fl_SC_26) (fun _ h9 => h9) rfl d_SC_about_17 ?_
        refine z_backe (va_runV (As := []) (rest := []) ⟨jx, jb, jml, jown, jts⟩ (c_Share_order l D cI cB cZ qs pP pS pB pA pC pF pN o) (zc_V 0 jts cd_Share_order lk_SC_113 im_Share_order se_Share_order in_Share hd_Share_order ⟨Nat.le_of_ble_eq_true rfl, Nat.le_of_ble_eq_true rfl⟩ rfl rfl) (z_preVR jK jP [1] rfl rfl rfl) rfl rfl jl.1 rfl (lv_room (Nat.le_of_ble_eq_true rfl)) d_SC_about_20 ⟨Nat.le_of_ble_eq_true rfl, Nat.le_of_ble_eq_true rfl⟩) ?_
        exact jret _ _ _ (Or.inl rfl) (Or.inr (Or.inl ⟨by omega, by omega, rfl⟩)) d_SC_about_23
    ·
      exact absurd hc7 (by decide)
  ·
    refine z_if_ne (tgt := 12) jx jb d_SC_about_7 (by decide) ⟨by decide, by decide⟩ (fun hc7 => ?_) (fun hc7 => ?_)
    ·
      exact absurd hc7 (by decide)
    ·
      refine lv_iconst (v := iZ (-1)) jx jb d_SC_about_10 rfl ?_
      exact jret _ _ _ (Or.inl rfl) (Or.inl ⟨by omega, rfl⟩) d_SC_about_11
abbrev rm_SC_points : Room := { frames := 2, cells := 0, slots := 0, locals := 41 }
set_option maxHeartbeats 4000000 in
set_option maxRecDepth 100000 in
theorem c_SC_points (l : Launch) (D : va_G) (cI cB cZ : ClassId) (g : Nat) (qc : Nat) (qp : Nat) (qi : Nat) (qs : Nat) (qr : Nat) (qo : Nat) (qx : Nat) (ps : Int) (pP : Nat) (pS : Nat) (pB : Nat) (pA : Nat) (pC : Nat) (pF : Nat) (pN : Nat) (o : Nat) (gP : Nat → Int) (x : Int) (ho : o ≤ 12) (hx1 : -2147483648 ≤ x ∧ x < 2147483648) : Met l y_SC_points (.code y_SC_points b_SC_points 2 (some .int) :: zT) rm_SC_points (zRc D classes (TY cI cB cZ) [(g, .inr (3, [.ref qc, .ref qp, .ref qi, .ref qs, .ref qr, .ref qo, .ref qx, .int (iZ ps)])), (qs, .inr (1, [.ref pP, .ref pS, .ref pB, .ref pA, .ref pC, .ref pF, .ref pN, .int (iZ (o : Int))])), (pP, .inl (cI, 256, .inl (zA gP)))] [.ref g, .int (iZ x)]) (zSi (fun z => z = if 0 < o ∧ 0 ≤ x ∧ x < 256 then gP x.toNat else -2)) 0 0 (fun _ => False) := by
  refine z_ofr (by decide) (Nat.le_of_ble_eq_true rfl) (Or.inl rfl) ?_
  intro p e s m args below meth c Q E jP jK jret ls jl
  obtain ⟨jx, jb, jrt, jml, jown, jts, jlk⟩ := E
  have jown : s.vm.findClass R_SC = some m.cls := jown
  have jl : lv_has ls 2 [(0, .ref g), (1, .int (iZ x))] := jl
  refine lv_aload_n jx jb d_SC_points_0 rfl (lv_at jl 0 rfl) ?_
  refine va_get (D := D) (ci := 3) (v := .ref qs) (C := R_SC) (T := F_SC) (N := 8) jx jb jts i_SC jown jK.1 jP 0 rfl rfl 3 (by decide) (jts _ fl_SC_26) (fun _ h9 => h9) rfl d_SC_points_1 ?_
  refine z_backr (va_runV (As := []) (rest := []) ⟨jx, jb, jml, jown, jts⟩ (c_Share_exists l D cI cB cZ qs pP pS pB pA pC pF pN o (by first | assumption | omega)) (zc_V 0 jts cd_Share_exists lk_SC_91 im_Share_exists se_Share_exists in_Share hd_Share_exists ⟨Nat.le_of_ble_eq_true rfl, Nat.le_of_ble_eq_true rfl⟩ rfl rfl) (z_preVR jK jP [1] rfl rfl rfl) rfl rfl jl.1 rfl (lv_room (Nat.le_of_ble_eq_true rfl)) d_SC_points_4 ⟨Nat.le_of_ble_eq_true rfl, Nat.le_of_ble_eq_true rfl⟩) (fun z4 hz4 => ?_)
  rcases hz4 with ⟨rfl, hq4⟩ | ⟨rfl, hq4⟩
  ·
    refine z_if_eq (tgt := 28) jx jb d_SC_points_7 (by decide) ⟨by decide, by decide⟩ (fun hc7 => ?_) (fun hc7 => ?_)
    ·
      exact absurd hc7 (by decide)
    ·
      refine lv_iload_n jx jb d_SC_points_10 rfl (lv_at jl 1 rfl) ?_
      refine z_backr (va_runS (As := [.int (iZ x)]) (rest := []) ⟨jx, jb, jml, jown, jts⟩ (c_isSymbol l D cI cB cZ x (by first | assumption | omega)) (zc_S 1 jts cd_SC_isSymbol lk_SC_68 st_SC_isSymbol in_SC hd_SC_isSymbol ⟨Nat.le_of_ble_eq_true rfl, Nat.le_of_ble_eq_true rfl⟩ rfl rfl) (z_preSR jK jP [] rfl) rfl rfl jl.1 rfl (lv_room (Nat.le_of_ble_eq_true rfl)) d_SC_points_11 ⟨Nat.le_of_ble_eq_true rfl, Nat.le_of_ble_eq_true rfl⟩) (fun z11 hz11 => ?_)
      rcases hz11 with ⟨rfl, hq11⟩ | ⟨rfl, hq11⟩
      ·
        refine z_if_eq (tgt := 28) jx jb d_SC_points_14 (by decide) ⟨by decide, by decide⟩ (fun hc14 => ?_) (fun hc14 => ?_)
        ·
          exact absurd hc14 (by decide)
        ·
          refine lv_aload_n jx jb d_SC_points_17 rfl (lv_at jl 0 rfl) ?_
          refine va_get (D := D) (ci := 3) (v := .ref qs) (C := R_SC) (T := F_SC) (N := 8) jx jb jts i_SC jown jK.1 jP 0 rfl rfl 3 (by decide) (jts _ fl_SC_26) (fun _ h9 => h9) rfl d_SC_points_18 ?_
          refine lv_iload_n jx jb d_SC_points_21 rfl (lv_at jl 1 rfl) ?_
          refine z_backe (va_runV (As := [.int (iZ x)]) (rest := []) ⟨jx, jb, jml, jown, jts⟩ (c_Share_pointsOf l D cI cB cZ qs pP pS pB pA pC pF pN o gP x (by first | assumption | omega)) (zc_V 1 jts cd_Share_pointsOf lk_SC_119 im_Share_pointsOf se_Share_pointsOf in_Share hd_Share_pointsOf ⟨Nat.le_of_ble_eq_true rfl, Nat.le_of_ble_eq_true rfl⟩ rfl rfl) (z_preVR jK jP [1, 2] rfl rfl rfl) rfl rfl jl.1 rfl (lv_room (Nat.le_of_ble_eq_true rfl)) d_SC_points_22 ⟨Nat.le_of_ble_eq_true rfl, Nat.le_of_ble_eq_true rfl⟩) ?_
          refine lv_goto (tgt := 30) jx jb d_SC_points_25 (by decide) ?_
          exact jret _ _ _ (Or.inl rfl) (by first | exact (if_pos (by omega)).symm | exact (if_neg (by omega)).symm) d_SC_points_30
      ·
        refine z_if_eq (tgt := 28) jx jb d_SC_points_14 (by decide) ⟨by decide, by decide⟩ (fun hc14 => ?_) (fun hc14 => ?_)
        ·
          refine lv_bipush (v := iZ (-2)) jx jb d_SC_points_28 (by decide) ?_
          exact jret _ _ _ (Or.inl rfl) (by first | exact (if_pos (by omega)).symm | exact (if_neg (by omega)).symm) d_SC_points_30
        ·
          exact absurd hc14 (by decide)
  ·
    refine z_if_eq (tgt := 28) jx jb d_SC_points_7 (by decide) ⟨by decide, by decide⟩ (fun hc7 => ?_) (fun hc7 => ?_)
    ·
      refine lv_bipush (v := iZ (-2)) jx jb d_SC_points_28 (by decide) ?_
      exact jret _ _ _ (Or.inl rfl) (by first | exact (if_pos (by omega)).symm | exact (if_neg (by omega)).symm) d_SC_points_30
    ·
      exact absurd hc7 (by decide)
abbrev rm_SC_makeSpareOut : Room := { frames := 0, cells := 0, slots := 0, locals := 0 }
set_option maxHeartbeats 4000000 in
set_option maxRecDepth 100000 in
theorem c_SC_makeSpareOut (l : Launch) (D : va_G) (cI cB cZ : ClassId) (sz : Nat) (g : Nat) (qc : Nat) (qp : Nat) (qi : Nat) (qs : Nat) (qr : Nat) (qo : Nat) (qx : Nat) (ps : Int) : Met l y_SC_makeSpareOut (.code y_SC_makeSpareOut b_SC_makeSpareOut 2 none :: zT) rm_SC_makeSpareOut (zPc D classes (TY cI cB cZ) [(g, .inr (3, [.ref qc, .ref qp, .ref qi, .ref qs, .ref qr, .ref qo, .ref qx, .int (iZ ps)]))] sz [.ref g]) (zFv (S := Unit) D classes (fun _u => True) (fun _u => [(g, .inr (3, [.ref qc, .ref qp, .ref qi, .ref qs, .ref qr, .ref qx, .ref qo, .int (iZ ps)]))]) (va_A [(g, .inr (3, [.ref qc, .ref qp, .ref qi, .ref qs, .ref qr, .ref qo, .ref qx, .int (iZ ps)]))] sz)) 0 0 (va_A [(g, .inr (3, [.ref qc, .ref qp, .ref qi, .ref qs, .ref qr, .ref qo, .ref qx, .int (iZ ps)]))] sz) := by
  refine z_ofv (by decide) (Nat.le_of_ble_eq_true rfl) rfl ?_
  intro p e s m args below meth c A Q E jmn jA jK jret H locs jP jD jS ls jl
  obtain ⟨jx, jb, jrt, jml, jown, jts, jlk⟩ := E
  have jown : s.vm.findClass R_SC = some m.cls := jown
  have jl : lv_has ls 2 [(0, .ref g)] := jl
  refine lv_aload_n jx jb d_SC_makeSpareOut_0 rfl (lv_at jl 0 rfl) ?_
  refine va_get (D := D) (ci := 3) (v := .ref qx) (C := R_SC) (T := F_SC) (N := 8) jx jb jts i_SC jown jK.1 jP 0 rfl rfl 6 (by decide) (jts _ fl_SC_40) (fun _ h9 => h9) rfl d_SC_makeSpareOut_1 ?_
  refine lv_astore_n (lv' := [(1, .ref qx), (0, .ref g)]) jx jb d_SC_makeSpareOut_4 rfl jl (by decide) rfl (fun ls jl => ?_)
  refine lv_aload_n jx jb d_SC_makeSpareOut_5 rfl (lv_at jl 1 rfl) ?_
  refine lv_aload_n jx jb d_SC_makeSpareOut_6 rfl (lv_at jl 1 rfl) ?_
  refine va_get (D := D) (ci := 3) (v := .ref qo) (C := R_SC) (T := F_SC) (N := 8) jx jb jts i_SC jown jK.1 jP 0 rfl rfl 5 (by decide) (jts _ fl_SC_37) (fun _ h9 => h9) rfl d_SC_makeSpareOut_7 ?_
  refine va_put (D := D) (ci := 3) (v := .ref qo) (ty := (.object "StateCoder$Row")) (C := R_SC) (T := F_SC) (N := 8) jx jb jts i_SC t_SC t_SC_ok n_SC jown jK.1 jP jD jS 0 rfl rfl 6 (by decide) (jts _ fl_SC_40) (fun _ h9 => h9) rfl (by decide +kernel) rfl rfl (Nat.le_of_ble_eq_true rfl) d_SC_makeSpareOut_10 (fun H locs jP jD jS => ?_)
  have jP : va_P D classes [(g, .inr (3, [.ref qc, .ref qp, .ref qi, .ref qs, .ref qr, .ref qo, .ref qo, .int (iZ ps)]))] H := jP
  have jD : va_D A [(g, .inr (3, [.ref qc, .ref qp, .ref qi, .ref qs, .ref qr, .ref qo, .ref qo, .int (iZ ps)]))] := jD
  refine lv_aload_n jx jb d_SC_makeSpareOut_13 rfl (lv_at jl 1 rfl) ?_
  refine lv_aload_n jx jb d_SC_makeSpareOut_14 rfl (lv_at jl 0 rfl) ?_
  refine va_put (D := D) (ci := 3) (v := .ref qx) (ty := (.object "StateCoder$Row")) (C := R_SC) (T := F_SC) (N := 8) jx jb jts i_SC t_SC t_SC_ok n_SC jown jK.1 jP jD jS 0 rfl rfl 5 (by decide) (jts _ fl_SC_37) (fun _ h9 => h9) rfl (by decide +kernel) rfl rfl (Nat.le_of_ble_eq_true rfl) d_SC_makeSpareOut_15 (fun H locs jP jD jS => ?_)
  have jP : va_P D classes [(g, .inr (3, [.ref qc, .ref qp, .ref qi, .ref qs, .ref qr, .ref qx, .ref qo, .int (iZ ps)]))] H := jP
  have jD : va_D A [(g, .inr (3, [.ref qc, .ref qp, .ref qi, .ref qs, .ref qr, .ref qx, .ref qo, .int (iZ ps)]))] := jD
  exact jret _ _ () _ _ (trivial) (jP.sub [0] rfl) (jD.sub [0] (by decide) rfl) jS d_SC_makeSpareOut_18
abbrev rm_SC_write : Room := { frames := 1, cells := 0, slots := 0, locals := 21 }
set_option maxHeartbeats 4000000 in
set_option maxRecDepth 100000 in
theorem c_SC_write (l : Launch) (D : va_G) (cI cB cZ : ClassId) (sz : Nat) (g : Nat) (qc : Nat) (qp : Nat) (qi : Nat) (qs : Nat) (qr : Nat) (qo : Nat) (qx : Nat) (ps : Int) (bi : Nat) (Li : Int) (hdi : Int) (hni : Int) (ovi : Int) (tsi : Int) (tbi : Int) (fi : Nat → Int) (x : Int64) (n : Int) (hLi : 0 ≤ Li ∧ Li ≤ 6000) (hn1 : -2147483648 ≤ n ∧ n < 2147483648) (hfi : ∀ k, -128 ≤ fi k ∧ fi k < 128) : Met l y_SC_write (.code y_SC_write b_SC_write 5 (some .boolean) :: zT) rm_SC_write (zPc D classes (TY cI cB cZ) [(g, .inr (3, [.ref qc, .ref qp, .ref qi, .ref qs, .ref qr, .ref qo, .ref qx, .int (iZ ps)])), (qi, .inr (0, [.ref bi, .int (iZ Li), .int (iZ hdi), .int (iZ hni), .int (iZ ovi), .int (iZ tsi), .int (iZ tbi)])), (bi, .inl (cB, 6000, .inl (zA fi)))] sz [.ref g, .long x, .int (iZ n)]) (zFi (S := Int × Int × (Nat → Int)) D classes (fun z u => (z = 1 ∧ (1 ≤ n ∧ n ≤ 8 ∧ Li + n ≤ 6000) ∧ u.1 = Li + n ∧ u.2.1 = ovi ∧ (∀ k, -128 ≤ u.2.2 k ∧ u.2.2 k < 128) ∧ (∀ k : Nat, (k : Int) < Li → u.2.2 k = fi k) ∧ ∀ j : Nat, (j : Int) < n → u.2.2 (Li.toNat + j) % 256 = wbyte x (n - 1 - j).toNat) ∨ (z = 0 ∧ ¬ (1 ≤ n ∧ n ≤ 8 ∧ Li + n ≤ 6000) ∧ u.1 = Li ∧ u.2.1 = ovi ∧ u.2.2 = fi)) (fun u => [(g, .inr (3, [.ref qc, .ref qp, .ref qi, .ref qs, .ref qr, .ref qo, .ref qx, .int (iZ ps)])), (qi, .inr (0, [.ref bi, .int (iZ u.1), .int (iZ hdi), .int (iZ hni), .int (iZ u.2.1), .int (iZ tsi), .int (iZ tbi)])), (bi, .inl (cB, 6000, .inl (zA u.2.2)))]) (va_A [(g, .inr (3, [.ref qc, .ref qp, .ref qi, .ref qs, .ref qr, .ref qo, .ref qx, .int (iZ ps)])), (qi, .inr (0, [.ref bi, .int (iZ Li), .int (iZ hdi), .int (iZ hni), .int (iZ ovi), .int (iZ tsi), .int (iZ tbi)])), (bi, .inl (cB, 6000, .inl (zA fi)))] sz)) 0 0 (va_A [(g, .inr (3, [.ref qc, .ref qp, .ref qi, .ref qs, .ref qr, .ref qo, .ref qx, .int (iZ ps)])), (qi, .inr (0, [.ref bi, .int (iZ Li), .int (iZ hdi), .int (iZ hni), .int (iZ ovi), .int (iZ tsi), .int (iZ tbi)])), (bi, .inl (cB, 6000, .inl (zA fi)))] sz) := by
  refine z_ofi (by decide) (Nat.le_of_ble_eq_true rfl) (Or.inr rfl) ?_
  intro p e s m args below meth c A Q E jA jK jret H locs jP jD jS ls jl
  obtain ⟨jx, jb, jrt, jml, jown, jts, jlk⟩ := E
  have jown : s.vm.findClass R_SC = some m.cls := jown
  have jl : lv_has ls 5 [(0, .ref g), (1, .long x), (3, .int (iZ n))] := jl
  refine lv_iload_n jx jb d_SC_write_0 rfl (lv_at jl 2 rfl) ?_
  refine lv_iconst (v := iZ 1) jx jb d_SC_write_1 rfl ?_
  refine z_icmp_lt (tgt := 26) jx jb d_SC_write_2 (by decide) ⟨⟨by omega, by omega⟩, ⟨by decide, by decide⟩⟩ (fun hc2 => ?_) (fun hc2 => ?_)
  ·
    refine lv_iconst (v := iZ 0) jx jb d_SC_write_26 rfl ?_
    exact jret _ _ _ (Li, ovi, fi) _ _ (Or.inr (Or.inl rfl)) (Or.inr ⟨rfl, by omega, rfl, rfl, rfl⟩) (jP.sub [0, 1, 2] rfl) (jD.sub [0, 1, 2] (by decide) rfl) jS d_SC_write_27
  ·
    refine lv_iload_n jx jb d_SC_write_5 rfl (lv_at jl 2 rfl) ?_
    refine lv_bipush (v := iZ 8) jx jb d_SC_write_6 (by decide) ?_
    refine z_icmp_gt (tgt := 26) jx jb d_SC_write_8 (by decide) ⟨⟨by omega, by omega⟩, ⟨by decide, by decide⟩⟩ (fun hc8 => ?_) (fun hc8 => ?_)
    ·
      refine lv_iconst (v := iZ 0) jx jb d_SC_write_26 rfl ?_
      exact jret _ _ _ (Li, ovi, fi) _ _ (Or.inr (Or.inl rfl)) (Or.inr ⟨rfl, by omega, rfl, rfl, rfl⟩) (jP.sub [0, 1, 2] rfl) (jD.sub [0, 1, 2] (by decide) rfl) jS d_SC_write_27
    ·
      refine lv_aload_n jx jb d_SC_write_11 rfl (lv_at jl 0 rfl) ?_
      refine va_get (D := D) (ci := 3) (v := .ref qi) (C := R_SC) (T := F_SC) (N := 8) jx jb jts i_SC jown jK.1 jP 0 rfl rfl 2 (by decide) (jts _ fl_SC_19) (fun _ h9 => h9) rfl d_SC_write_12 ?_
      refine z_backe (va_runV (As := []) (rest := []) ⟨jx, jb, jml, jown, jts⟩ (c_Row_length l D cI cB cZ qi bi Li hdi hni ovi tsi tbi) (zc_V 0 jts cd_Row_length lk_SC_43 im_Row_length se_Row_length in_Row hd_Row_length ⟨Nat.le_of_ble_eq_true rfl, Nat.le_of_ble_eq_true rfl⟩ rfl rfl) (z_preVR jK jP [1] rfl rfl rfl) rfl rfl jl.1 rfl (lv_room (Nat.le_of_ble_eq_true rfl)) d_SC_write_15 ⟨Nat.le_of_ble_eq_true rfl, Nat.le_of_ble_eq_true rfl⟩) ?_
      refine lv_iload_n jx jb d_SC_write_18 rfl (lv_at jl 2 rfl) ?_
      refine z_iadd jx jb d_SC_write_19 ?_
      refine lv_sipush (v := iZ 6000) jx jb d_SC_write_20 (by decide) ?_
      refine z_icmp_le (tgt := 28) jx jb d_SC_write_23 (by decide) ⟨⟨by omega, by omega⟩, ⟨by decide, by decide⟩⟩ (fun hc23 => ?_) (fun hc23 => ?_)
      ·
        refine lv_iload_n jx jb d_SC_write_28 rfl (lv_at jl 2 rfl) ?_
        refine lv_iconst (v := iZ 1) jx jb d_SC_write_29 rfl ?_
        refine z_isub jx jb d_SC_write_30 ?_
        refine z_top ((n.toNat : Int) - 1) (by omega) ?_
        refine lv_istore (lv' := [(4, .int (iZ ((n.toNat : Int) - 1))), (0, .ref g), (1, .long x), (3, .int (iZ n))]) jx jb d_SC_write_31 jl (by decide) rfl (fun ls jl => ?_)
        have hloop33 : ∀ (nF : Nat) (d : Nat) (L2 : Int) (ov2 : Int) (f2 : Nat → Int), d < nF → ((d : Int) ≤ n) → (wrI fi f2 Li L2 n d x ∧ ov2 = ovi) → ∀ (H : Heap) (locs : List Loc), va_P D classes [(g, .inr (3, [.ref qc, .ref qp, .ref qi, .ref qs, .ref qr, .ref qo, .ref qx, .int (iZ ps)])), (qi, .inr (0, [.ref bi, .int (iZ L2), .int (iZ hdi), .int (iZ hni), .int (iZ ov2), .int (iZ tsi), .int (iZ tbi)])), (bi, .inl (cB, 6000, .inl (zA f2)))] H → va_D A [(g, .inr (3, [.ref qc, .ref qp, .ref qi, .ref qs, .ref qr, .ref qo, .ref qx, .int (iZ ps)])), (qi, .inr (0, [.ref bi, .int (iZ L2), .int (iZ hdi), .int (iZ hni), .int (iZ ov2), .int (iZ tsi), .int (iZ tbi)])), (bi, .inl (cB, 6000, .inl (zA f2)))] → va_S A s.heap H locs → ∀ ls : Array Slot, lv_has ls 5 [(0, .ref g), (1, .long x), (3, .int (iZ n)), (4, .int (iZ ((d : Int) - 1)))] → W p l e rm_SC_write s m args below meth c H locs 0 0 Q (F0 m 33 ls []) := by
          intro nF
          induction nF with
          | zero => intro d L2 ov2 f2 hm; exact absurd hm (Nat.not_lt_zero _)
          | succ nF ih33 =>
            intro d L2 ov2 f2 hm hd hW H locs jP jD jS ls jl
            refine lv_iload jx jb d_SC_write_33 (lv_at jl 3 rfl) ?_
            have hd0 := hW.1.1
            refine z_if_lt (tgt := 63) jx jb d_SC_write_35 (by decide) ⟨by omega, by omega⟩ (fun hc35 => ?_) (fun hc35 => ?_)
            ·
              refine lv_iconst (v := iZ 1) jx jb d_SC_write_63 rfl ?_
              exact jret _ _ _ (L2, ov2, f2) _ _ (Or.inr (Or.inr rfl)) (Or.inl ⟨rfl, by omega, wrI_end hW.1 (by omega) hW.2⟩) (jP.sub [0, 1, 2] rfl) (jD.sub [0, 1, 2] (by decide) rfl) jS d_SC_write_64
            ·
              refine lv_aload_n jx jb d_SC_write_38 rfl (lv_at jl 0 rfl) ?_
              refine va_get (D := D) (ci := 3) (v := .ref qi) (C := R_SC) (T := F_SC) (N := 8) jx jb jts i_SC jown jK.1 jP 0 rfl rfl 2 (by decide) (jts _ fl_SC_19) (fun _ h9 => h9) rfl d_SC_write_39 ?_
              refine lv_lload_n jx jb d_SC_write_42 rfl (lv_at jl 1 rfl) ?_
              refine lv_bipush (v := iZ 8) jx jb d_SC_write_43 (by decide) ?_
              refine lv_iload jx jb d_SC_write_45 (lv_at jl 3 rfl) ?_
              refine z_imul jx jb d_SC_write_47 ?_
              refine z_lshr jx jb d_SC_write_48 (8 * (d - 1)) (by omega) (fun v48 hv48 => ?_)
              refine z_l2i jx jb d_SC_write_49 ?_
              refine lv_sipush (v := iZ 255) jx jb d_SC_write_50 (by decide) ?_
              refine z_iand jx jb d_SC_write_53 8 256 (rfl) (rfl) (by decide) ?_
              refine z_top (wbyte x (d - 1)) (by rw [hv48]; rfl) ?_
              refine z_backv (wr := [(g, .inr (3, [.ref qc, .ref qp, .ref qi, .ref qs, .ref qr, .ref qo, .ref qx, .int (iZ ps)]))]) jP jD jS jA [1, 2] [0] rfl rfl (by decide) (by decide) (va_runV (As := [.int (iZ (wbyte x (d - 1)))]) (rest := []) ⟨jx, jb, jml, jown, jts⟩ (c_Row_add l D cI cB cZ H.size qi bi L2 hdi hni ov2 tsi tbi f2 (wbyte x (d - 1)) (by omega)) (zc_V 1 jts cd_Row_add lk_SC_47 im_Row_add se_Row_add in_Row hd_Row_add ⟨Nat.le_of_ble_eq_true rfl, Nat.le_of_ble_eq_true rfl⟩ rfl rfl) (z_preV jK jP jD [1, 2] (by decide) rfl rfl rfl rfl) rfl rfl jl.1 rfl (lv_room (Nat.le_of_ble_eq_true rfl)) d_SC_write_54 ⟨Nat.le_of_ble_eq_true rfl, Nat.le_of_ble_eq_true rfl⟩) (fun u54 H locs hu54 jP jD jS => ?_)
              obtain ⟨L1_54, ov1_54, f1_54⟩ := u54
              have jP : va_P D classes [(g, .inr (3, [.ref qc, .ref qp, .ref qi, .ref qs, .ref qr, .ref qo, .ref qx, .int (iZ ps)])), (qi, .inr (0, [.ref bi, .int (iZ L1_54), .int (iZ hdi), .int (iZ hni), .int (iZ ov1_54), .int (iZ tsi), .int (iZ tbi)])), (bi, .inl (cB, 6000, .inl (zA f1_54)))] H := jP.sub [0, 1, 2] rfl
              have jD : va_D A [(g, .inr (3, [.ref qc, .ref qp, .ref qi, .ref qs, .ref qr, .ref qo, .ref qx, .int (iZ ps)])), (qi, .inr (0, [.ref bi, .int (iZ L1_54), .int (iZ hdi), .int (iZ hni), .int (iZ ov1_54), .int (iZ tsi), .int (iZ tbi)])), (bi, .inl (cB, 6000, .inl (zA f1_54)))] := jD.sub [0, 1, 2] (by decide) rfl
              refine lv_iinc (v := iZ (((d - 1 : Nat) : Int) - 1)) (lv' := [(4, .int (iZ (((d - 1 : Nat) : Int) - 1))), (0, .ref g), (1, .long x), (3, .int (iZ n))]) jx jb d_SC_write_57 jl (k := 3) rfl (by rw [show (((d - 1 : Nat) : Int) - 1) = ((d : Int) - 1) + (-1) from by omega]; exact iZ_add _ _) (by decide) rfl (fun ls jl => ?_)
              refine lv_goto (tgt := 33) jx jb d_SC_write_60 (by decide) ?_
              exact ih33 (d - 1) L1_54 ov1_54 f1_54 (by omega) (by first | assumption | omega) (⟨wrI_s hW.1 (by omega) (by omega) hu54, wrI_ov hW.1 hW.2 (by omega) hu54⟩) _ _ (jP.sub [0, 1, 2] rfl) (jD.sub [0, 1, 2] (by decide) rfl) jS _ (lv_sub jl [1, 2, 3, 0] rfl)
        exact hloop33 (n.toNat + 1) n.toNat Li ovi fi (Nat.lt_succ_self _) (by first | assumption | omega) (⟨wrI_0 (by omega) (by omega) (by omega) hfi, rfl⟩) _ _ (jP.sub [0, 1, 2] rfl) (jD.sub [0, 1, 2] (by decide) rfl) jS _ (lv_sub jl [1, 2, 3, 0] rfl)
      ·
        refine lv_iconst (v := iZ 0) jx jb d_SC_write_26 rfl ?_
        exact jret _ _ _ (Li, ovi, fi) _ _ (Or.inr (Or.inl rfl)) (Or.inr ⟨rfl, by omega, rfl, rfl, rfl⟩) (jP.sub [0, 1, 2] rfl) (jD.sub [0, 1, 2] (by decide) rfl) jS d_SC_write_27
abbrev rm_SC_cell : Room := { frames := 3, cells := 0, slots := 0, locals := 62 }
set_option maxHeartbeats 4000000 in
set_option maxRecDepth 100000 in
theorem c_SC_cell (l : Launch) (D : va_G) (cI cB cZ : ClassId) (g : Nat) (qc : Nat) (qp : Nat) (qi : Nat) (qs : Nat) (qr : Nat) (qo : Nat) (qx : Nat) (ps : Int) (pP : Nat) (pS : Nat) (pB : Nat) (pA : Nat) (pC : Nat) (pF : Nat) (pN : Nat) (o : Nat) (gS : Nat → Int) (gB : Nat → Int) (gA : Nat → Int) (k : Int) (x : Int) (ho : o ≤ 12) (hk : -2147483648 ≤ k ∧ k < 2147483648) (hx1 : -2147483648 ≤ x ∧ x < 2147483648) : Met l y_SC_cell (.code y_SC_cell b_SC_cell 3 (some .int) :: zT) rm_SC_cell (zRc D classes (TY cI cB cZ) [(g, .inr (3, [.ref qc, .ref qp, .ref qi, .ref qs, .ref qr, .ref qo, .ref qx, .int (iZ ps)])), (qs, .inr (1, [.ref pP, .ref pS, .ref pB, .ref pA, .ref pC, .ref pF, .ref pN, .int (iZ (o : Int))])), (pS, .inl (cI, 4096, .inl (zA gS))), (pB, .inl (cI, 4096, .inl (zA gB))), (pA, .inl (cI, 4096, .inl (zA gA)))] [.ref g, .int (iZ k), .int (iZ x)]) (zSi (fun z => z = cellAns o gS gB gA k x)) 0 0 (fun _ => False) := by
  refine z_ofr (by decide) (Nat.le_of_ble_eq_true rfl) (Or.inl rfl) ?_
  intro p e s m args below meth c Q E jP jK jret ls jl
  obtain ⟨jx, jb, jrt, jml, jown, jts, jlk⟩ := E
  have jown : s.vm.findClass R_SC = some m.cls := jown
  have hp12 := p2_le ho
  have jl : lv_has ls 3 [(0, .ref g), (1, .int (iZ k)), (2, .int (iZ x))] := jl
  refine lv_aload_n jx jb d_SC_cell_0 rfl (lv_at jl 0 rfl) ?_
  refine va_get (D := D) (ci := 3) (v := .ref qs) (C := R_SC) (T := F_SC) (N := 8) jx jb jts i_SC jown jK.1 jP 0 rfl rfl 3 (by decide) (jts _ fl_SC_26) (fun _ h9 => h9) rfl d_SC_cell_1 ?_
  refine lv_iload_n jx jb d_SC_cell_4 rfl (lv_at jl 1 rfl) ?_
  refine z_backr (va_runV (As := [.int (iZ k)]) (rest := []) ⟨jx, jb, jml, jown, jts⟩ (c_Share_hasCell l D cI cB cZ qs pP pS pB pA pC pF pN o k (by first | assumption | omega) (by first | assumption | omega)) (zc_V 1 jts cd_Share_hasCell lk_SC_122 im_Share_hasCell se_Share_hasCell in_Share hd_Share_hasCell ⟨Nat.le_of_ble_eq_true rfl, Nat.le_of_ble_eq_true rfl⟩ rfl rfl) (z_preVR jK jP [1] rfl rfl rfl) rfl rfl jl.1 rfl (lv_room (Nat.le_of_ble_eq_true rfl)) d_SC_cell_5 ⟨Nat.le_of_ble_eq_true rfl, Nat.le_of_ble_eq_true rfl⟩) (fun z5 hz5 => ?_)
  rcases hz5 with ⟨rfl, hq5⟩ | ⟨rfl, hq5⟩
  ·
    refine z_if_ne (tgt := 13) jx jb d_SC_cell_8 (by decide) ⟨by decide, by decide⟩ (fun hc8 => ?_) (fun hc8 => ?_)
    ·
      refine lv_iload_n jx jb d_SC_cell_13 rfl (lv_at jl 2 rfl) ?_
      rcases (by omega : x = 0 ∨ x = 1 ∨ x = 2 ∨ (x < 0 ∨ 2 < x)) with hc14 | hc14 | hc14 | hc14
      ·
        refine z_tableIn (tgt := 40) jx jb d_SC_cell_14 0 hc14 ⟨by decide, by decide⟩ (by decide) (by decide) rfl (by decide) ?_
        refine lv_aload_n jx jb d_SC_cell_40 rfl (lv_at jl 0 rfl) ?_
        refine va_get (D := D) (ci := 3) (v := .ref qs) (C := R_SC) (T := F_SC) (N := 8) jx jb jts i_SC jown jK.1 jP 0 rfl rfl 3 (by decide) (jts _ fl_SC_26) (fun _ h9 => h9) rfl d_SC_cell_41 ?_
        refine lv_iload_n jx jb d_SC_cell_44 rfl (lv_at jl 1 rfl) ?_
        refine z_backe (va_runV (As := [.int (iZ k)]) (rest := []) ⟨jx, jb, jml, jown, jts⟩ (c_Share_symbolOf l D cI cB cZ qs pP pS pB pA pC pF pN o gS k (by first | assumption | omega) (by first | assumption | omega) (by first | assumption | omega)) (zc_V 1 jts cd_Share_symbolOf lk_SC_125 im_Share_symbolOf se_Share_symbolOf in_Share hd_Share_symbolOf ⟨Nat.le_of_ble_eq_true rfl, Nat.le_of_ble_eq_true rfl⟩ rfl rfl) (z_preVR jK jP [1, 2] rfl rfl rfl) rfl rfl jl.1 rfl (lv_room (Nat.le_of_ble_eq_true rfl)) d_SC_cell_45 ⟨Nat.le_of_ble_eq_true rfl, Nat.le_of_ble_eq_true rfl⟩) ?_
        exact jret _ _ _ (Or.inl rfl) ((cellAns_0 (by omega) (by omega)).symm) d_SC_cell_48
      ·
        refine z_tableIn (tgt := 49) jx jb d_SC_cell_14 1 hc14 ⟨by decide, by decide⟩ (by decide) (by decide) rfl (by decide) ?_
        refine lv_aload_n jx jb d_SC_cell_49 rfl (lv_at jl 0 rfl) ?_
        refine va_get (D := D) (ci := 3) (v := .ref qs) (C := R_SC) (T := F_SC) (N := 8) jx jb jts i_SC jown jK.1 jP 0 rfl rfl 3 (by decide) (jts _ fl_SC_26) (fun _ h9 => h9) rfl d_SC_cell_50 ?_
        refine lv_iload_n jx jb d_SC_cell_53 rfl (lv_at jl 1 rfl) ?_
        refine z_backe (va_runV (As := [.int (iZ k)]) (rest := []) ⟨jx, jb, jml, jown, jts⟩ (c_Share_bitsOf l D cI cB cZ qs pP pS pB pA pC pF pN o gB k (by first | assumption | omega) (by first | assumption | omega) (by first | assumption | omega)) (zc_V 1 jts cd_Share_bitsOf lk_SC_128 im_Share_bitsOf se_Share_bitsOf in_Share hd_Share_bitsOf ⟨Nat.le_of_ble_eq_true rfl, Nat.le_of_ble_eq_true rfl⟩ rfl rfl) (z_preVR jK jP [1, 3] rfl rfl rfl) rfl rfl jl.1 rfl (lv_room (Nat.le_of_ble_eq_true rfl)) d_SC_cell_54 ⟨Nat.le_of_ble_eq_true rfl, Nat.le_of_ble_eq_true rfl⟩) ?_
        exact jret _ _ _ (Or.inl rfl) ((cellAns_1 (by omega) (by omega)).symm) d_SC_cell_57
      ·
        refine z_tableIn (tgt := 58) jx jb d_SC_cell_14 2 hc14 ⟨by decide, by decide⟩ (by decide) (by decide) rfl (by decide) ?_
        refine lv_aload_n jx jb d_SC_cell_58 rfl (lv_at jl 0 rfl) ?_
        refine va_get (D := D) (ci := 3) (v := .ref qs) (C := R_SC) (T := F_SC) (N := 8) jx jb jts i_SC jown jK.1 jP 0 rfl rfl 3 (by decide) (jts _ fl_SC_26) (fun _ h9 => h9) rfl d_SC_cell_59 ?_
        refine lv_iload_n jx jb d_SC_cell_62 rfl (lv_at jl 1 rfl) ?_
        refine z_backe (va_runV (As := [.int (iZ k)]) (rest := []) ⟨jx, jb, jml, jown, jts⟩ (c_Share_baseOf l D cI cB cZ qs pP pS pB pA pC pF pN o gA k (by first | assumption | omega) (by first | assumption | omega) (by first | assumption | omega)) (zc_V 1 jts cd_Share_baseOf lk_SC_131 im_Share_baseOf se_Share_baseOf in_Share hd_Share_baseOf ⟨Nat.le_of_ble_eq_true rfl, Nat.le_of_ble_eq_true rfl⟩ rfl rfl) (z_preVR jK jP [1, 4] rfl rfl rfl) rfl rfl jl.1 rfl (lv_room (Nat.le_of_ble_eq_true rfl)) d_SC_cell_63 ⟨Nat.le_of_ble_eq_true rfl, Nat.le_of_ble_eq_true rfl⟩) ?_
        exact jret _ _ _ (Or.inl rfl) ((cellAns_2 (by omega) (by omega)).symm) d_SC_cell_66
      ·
        refine z_tableOut (tgt := 67) jx jb d_SC_cell_14 ⟨by omega, by omega⟩ hc14 (by decide) ?_
        refine lv_iconst (v := iZ (-1)) jx jb d_SC_cell_67 rfl ?_
        exact jret _ _ _ (Or.inl rfl) ((cellAns_x (by omega)).symm) d_SC_cell_68
    ·
      exact absurd hc8 (by decide)
  ·
    refine z_if_ne (tgt := 13) jx jb d_SC_cell_8 (by decide) ⟨by decide, by decide⟩ (fun hc8 => ?_) (fun hc8 => ?_)
    ·
      exact absurd hc8 (by decide)
    ·
      refine lv_iconst (v := iZ (-1)) jx jb d_SC_cell_11 rfl ?_
      exact jret _ _ _ (Or.inl rfl) ((cellAns_no (by omega)).symm) d_SC_cell_12
end
section
theorem ln_NumberForm_7 : Cond.methodLinkNest R_NumberForm 7 y_SC_exponent R_SC ∈ lw_tbl := List.mem_of_getElem? (i := 335) (by decide +kernel)
theorem cd_NumberForm_shortBits : Cond.code y_NumberForm_shortBits b_NumberForm_shortBits 1 (some .int) ∈ zT := zT_of (List.mem_of_getElem? (i := 334) (by decide +kernel)) rfl
theorem in_NumberForm : Cond.initialized R_NumberForm ∈ zT := zT_of (List.mem_of_getElem? (i := 43) (by decide +kernel)) rfl
theorem hd_NumberForm_shortBits : y_NumberForm_shortBits.cls ≠ "java/lang/invoke/MethodHandle" ∧ y_NumberForm_shortBits.cls ≠ "java/lang/invoke/VarHandle" ∧ (parseMethodDescriptor y_NumberForm_shortBits.desc).map (fun d => d.parameters.length) = some 1 := by decide +kernel
theorem lk_NumberForm_13 : Cond.methodLink R_NumberForm 13 y_NumberForm_shortBits ∈ zT := zT_of (List.mem_of_getElem? (i := 332) (by decide +kernel)) rfl
theorem st_NumberForm_shortBits : Cond.static y_NumberForm_shortBits ∈ zT := zT_of (List.mem_of_getElem? (i := 333) (by decide +kernel)) rfl
theorem cd_NumberForm_firstShifted : Cond.code y_NumberForm_firstShifted b_NumberForm_firstShifted 1 (some .int) ∈ zT := zT_of (List.mem_of_getElem? (i := 331) (by decide +kernel)) rfl
theorem hd_NumberForm_firstShifted : y_NumberForm_firstShifted.cls ≠ "java/lang/invoke/MethodHandle" ∧ y_NumberForm_firstShifted.cls ≠ "java/lang/invoke/VarHandle" ∧ (parseMethodDescriptor y_NumberForm_firstShifted.desc).map (fun d => d.parameters.length) = some 1 := by decide +kernel
theorem lk_NumberForm_18 : Cond.methodLink R_NumberForm 18 y_NumberForm_firstShifted ∈ zT := zT_of (List.mem_of_getElem? (i := 329) (by decide +kernel)) rfl
theorem st_NumberForm_firstShifted : Cond.static y_NumberForm_firstShifted ∈ zT := zT_of (List.mem_of_getElem? (i := 330) (by decide +kernel)) rfl
theorem cd_NumberForm_firstLong : Cond.code y_NumberForm_firstLong b_NumberForm_firstLong 1 (some .int) ∈ zT := zT_of (List.mem_of_getElem? (i := 328) (by decide +kernel)) rfl
theorem hd_NumberForm_firstLong : y_NumberForm_firstLong.cls ≠ "java/lang/invoke/MethodHandle" ∧ y_NumberForm_firstLong.cls ≠ "java/lang/invoke/VarHandle" ∧ (parseMethodDescriptor y_NumberForm_firstLong.desc).map (fun d => d.parameters.length) = some 1 := by decide +kernel
theorem lk_ShareWriter_47 : Cond.methodLink R_ShareWriter 47 y_NumberForm_firstLong ∈ zT := zT_of (List.mem_of_getElem? (i := 326) (by decide +kernel)) rfl
theorem st_NumberForm_firstLong : Cond.static y_NumberForm_firstLong ∈ zT := zT_of (List.mem_of_getElem? (i := 327) (by decide +kernel)) rfl
theorem lk_ShareWriter_55 : Cond.methodLink R_ShareWriter 55 y_NumberForm_firstShifted ∈ zT := zT_of (List.mem_of_getElem? (i := 337) (by decide +kernel)) rfl
theorem lk_ShareWriter_52 : Cond.methodLink R_ShareWriter 52 y_NumberForm_shortBits ∈ zT := zT_of (List.mem_of_getElem? (i := 336) (by decide +kernel)) rfl
theorem lk_ShareWriter_20 : Cond.methodLink R_ShareWriter 20 y_Row_putBits ∈ zT := zT_of (List.mem_of_getElem? (i := 316) (by decide +kernel)) rfl
theorem d_NumberForm_shortBits_0 : decode b_NumberForm_shortBits 0 = .ok (.iload_n 0, 1) := by decide +kernel
theorem d_NumberForm_shortBits_1 : decode b_NumberForm_shortBits 1 = .ok (.iconst 1, 1) := by decide +kernel
theorem d_NumberForm_shortBits_2 : decode b_NumberForm_shortBits 2 = .ok (.iadd, 1) := by decide +kernel
theorem d_NumberForm_shortBits_3 : decode b_NumberForm_shortBits 3 = .ok (.invokestatic 7, 3) := by decide +kernel
theorem d_NumberForm_shortBits_6 : decode b_NumberForm_shortBits 6 = .ok (.ireturn, 1) := by decide +kernel
theorem d_NumberForm_firstShifted_0 : decode b_NumberForm_firstShifted 0 = .ok (.iconst 1, 1) := by decide +kernel
theorem d_NumberForm_firstShifted_1 : decode b_NumberForm_firstShifted 1 = .ok (.iload_n 0, 1) := by decide +kernel
theorem d_NumberForm_firstShifted_2 : decode b_NumberForm_firstShifted 2 = .ok (.invokestatic 13, 3) := by decide +kernel
theorem d_NumberForm_firstShifted_5 : decode b_NumberForm_firstShifted 5 = .ok (.ishl, 1) := by decide +kernel
theorem d_NumberForm_firstShifted_6 : decode b_NumberForm_firstShifted 6 = .ok (.ireturn, 1) := by decide +kernel
theorem d_NumberForm_firstLong_0 : decode b_NumberForm_firstLong 0 = .ok (.iconst 2, 1) := by decide +kernel
theorem d_NumberForm_firstLong_1 : decode b_NumberForm_firstLong 1 = .ok (.iload_n 0, 1) := by decide +kernel
theorem d_NumberForm_firstLong_2 : decode b_NumberForm_firstLong 2 = .ok (.invokestatic 18, 3) := by decide +kernel
theorem d_NumberForm_firstLong_5 : decode b_NumberForm_firstLong 5 = .ok (.imul, 1) := by decide +kernel
theorem d_NumberForm_firstLong_6 : decode b_NumberForm_firstLong 6 = .ok (.iconst 2, 1) := by decide +kernel
theorem d_NumberForm_firstLong_7 : decode b_NumberForm_firstLong 7 = .ok (.isub, 1) := by decide +kernel
theorem d_NumberForm_firstLong_8 : decode b_NumberForm_firstLong 8 = .ok (.iload_n 0, 1) := by decide +kernel
theorem d_NumberForm_firstLong_9 : decode b_NumberForm_firstLong 9 = .ok (.isub, 1) := by decide +kernel
theorem d_NumberForm_firstLong_10 : decode b_NumberForm_firstLong 10 = .ok (.ireturn, 1) := by decide +kernel
theorem d_ShareWriter_putNumber_0 : decode b_ShareWriter_putNumber 0 = .ok (.iload_n 1, 1) := by decide +kernel
theorem d_ShareWriter_putNumber_1 : decode b_ShareWriter_putNumber 1 = .ok (.invokestatic 47, 3) := by decide +kernel
theorem d_ShareWriter_putNumber_4 : decode b_ShareWriter_putNumber 4 = .ok (.istore_n 3, 1) := by decide +kernel
theorem d_ShareWriter_putNumber_5 : decode b_ShareWriter_putNumber 5 = .ok (.iload_n 0, 1) := by decide +kernel
theorem d_ShareWriter_putNumber_6 : decode b_ShareWriter_putNumber 6 = .ok (.iload_n 3, 1) := by decide +kernel
theorem d_ShareWriter_putNumber_7 : decode b_ShareWriter_putNumber 7 = .ok (.if_icmp .ge 15, 3) := by decide +kernel
theorem d_ShareWriter_putNumber_10 : decode b_ShareWriter_putNumber 10 = .ok (.aload_n 2, 1) := by decide +kernel
theorem d_ShareWriter_putNumber_11 : decode b_ShareWriter_putNumber 11 = .ok (.iload_n 0, 1) := by decide +kernel
theorem d_ShareWriter_putNumber_12 : decode b_ShareWriter_putNumber 12 = .ok (.iload_n 1, 1) := by decide +kernel
theorem d_ShareWriter_putNumber_13 : decode b_ShareWriter_putNumber 13 = .ok (.invokestatic 52, 3) := by decide +kernel
theorem d_ShareWriter_putNumber_16 : decode b_ShareWriter_putNumber 16 = .ok (.invokevirtual 20, 3) := by decide +kernel
theorem d_ShareWriter_putNumber_19 : decode b_ShareWriter_putNumber 19 = .ok (.goto 28, 3) := by decide +kernel
theorem d_ShareWriter_putNumber_22 : decode b_ShareWriter_putNumber 22 = .ok (.aload_n 2, 1) := by decide +kernel
theorem d_ShareWriter_putNumber_23 : decode b_ShareWriter_putNumber 23 = .ok (.iload_n 0, 1) := by decide +kernel
theorem d_ShareWriter_putNumber_24 : decode b_ShareWriter_putNumber 24 = .ok (.iload_n 1, 1) := by decide +kernel
theorem d_ShareWriter_putNumber_25 : decode b_ShareWriter_putNumber 25 = .ok (.invokestatic 55, 3) := by decide +kernel
theorem d_ShareWriter_putNumber_28 : decode b_ShareWriter_putNumber 28 = .ok (.if_icmp .ge 7, 3) := by decide +kernel
theorem d_ShareWriter_putNumber_31 : decode b_ShareWriter_putNumber 31 = .ok (.iload_n 0, 1) := by decide +kernel
theorem d_ShareWriter_putNumber_32 : decode b_ShareWriter_putNumber 32 = .ok (.goto 6, 3) := by decide +kernel
theorem d_ShareWriter_putNumber_35 : decode b_ShareWriter_putNumber 35 = .ok (.iload_n 0, 1) := by decide +kernel
theorem d_ShareWriter_putNumber_36 : decode b_ShareWriter_putNumber 36 = .ok (.iload_n 3, 1) := by decide +kernel
theorem d_ShareWriter_putNumber_37 : decode b_ShareWriter_putNumber 37 = .ok (.iadd, 1) := by decide +kernel
theorem d_ShareWriter_putNumber_38 : decode b_ShareWriter_putNumber 38 = .ok (.iload_n 1, 1) := by decide +kernel
theorem d_ShareWriter_putNumber_39 : decode b_ShareWriter_putNumber 39 = .ok (.invokestatic 52, 3) := by decide +kernel
theorem d_ShareWriter_putNumber_42 : decode b_ShareWriter_putNumber 42 = .ok (.iconst 1, 1) := by decide +kernel
theorem d_ShareWriter_putNumber_43 : decode b_ShareWriter_putNumber 43 = .ok (.iadd, 1) := by decide +kernel
theorem d_ShareWriter_putNumber_44 : decode b_ShareWriter_putNumber 44 = .ok (.invokevirtual 20, 3) := by decide +kernel
theorem d_ShareWriter_putNumber_47 : decode b_ShareWriter_putNumber 47 = .ok (.return_, 1) := by decide +kernel
abbrev rm_NF_shortBits : Room := { frames := 1, cells := 0, slots := 0, locals := 21 }
set_option maxHeartbeats 4000000 in
set_option maxRecDepth 100000 in
theorem c_NF_shortBits (l : Launch) (D : va_G) (cI cB cZ : ClassId) (R1 : Int) (hR : 0 ≤ R1 ∧ R1 ≤ 100000) : Met l y_NumberForm_shortBits (.code y_NumberForm_shortBits b_NumberForm_shortBits 1 (some .int) :: zT) rm_NF_shortBits (zRc D classes (TY cI cB cZ) [] [.int (iZ R1)]) (zSi (fun z => z = (numK R1 : Int))) 0 0 (fun _ => False) := by
  refine z_ofr (by decide) (Nat.le_of_ble_eq_true rfl) (Or.inl rfl) ?_
  intro p e s m args below meth c Q E jP jK jret ls jl
  obtain ⟨jx, jb, jrt, jml, jown, jts, jlk⟩ := E
  have jown : s.vm.findClass R_NumberForm = some m.cls := jown
  have jl : lv_has ls 1 [(0, .int (iZ R1))] := jl
  refine lv_iload_n jx jb d_NumberForm_shortBits_0 rfl (lv_at jl 0 rfl) ?_
  refine lv_iconst (v := iZ 1) jx jb d_NumberForm_shortBits_1 rfl ?_
  refine z_iadd jx jb d_NumberForm_shortBits_2 ?_
  refine z_backe (va_runSN (As := [.int (iZ (R1 + 1))]) (rest := []) ⟨jx, jb, jml, jown, jts⟩ (c_exponent l D cI cB cZ (R1 + 1) (by first | assumption | omega)) (zc_SN 1 jts cd_SC_exponent (jK.nest ln_NumberForm_7 rfl) st_SC_exponent in_SC hd_SC_exponent ⟨Nat.le_of_ble_eq_true rfl, Nat.le_of_ble_eq_true rfl⟩ rfl rfl) (z_preSR jK jP [] rfl) rfl rfl jl.1 rfl (lv_room (Nat.le_of_ble_eq_true rfl)) d_NumberForm_shortBits_3 ⟨Nat.le_of_ble_eq_true rfl, Nat.le_of_ble_eq_true rfl⟩) ?_
  exact jret _ _ _ (Or.inl rfl) (rfl) d_NumberForm_shortBits_6
abbrev rm_NF_firstShifted : Room := { frames := 2, cells := 0, slots := 0, locals := 41 }
set_option maxHeartbeats 4000000 in
set_option maxRecDepth 100000 in
theorem c_NF_firstShifted (l : Launch) (D : va_G) (cI cB cZ : ClassId) (R1 : Int) (hR : 0 ≤ R1 ∧ R1 ≤ 100000) : Met l y_NumberForm_firstShifted (.code y_NumberForm_firstShifted b_NumberForm_firstShifted 1 (some .int) :: zT) rm_NF_firstShifted (zRc D classes (TY cI cB cZ) [] [.int (iZ R1)]) (zSi (fun z => z = numT R1)) 0 0 (fun _ => False) := by
  refine z_ofr (by decide) (Nat.le_of_ble_eq_true rfl) (Or.inl rfl) ?_
  intro p e s m args below meth c Q E jP jK jret ls jl
  obtain ⟨jx, jb, jrt, jml, jown, jts, jlk⟩ := E
  have jown : s.vm.findClass R_NumberForm = some m.cls := jown
  have hk17 := numK_lt hR.1 hR.2
  have jl : lv_has ls 1 [(0, .int (iZ R1))] := jl
  refine lv_iconst (v := iZ 1) jx jb d_NumberForm_firstShifted_0 rfl ?_
  refine lv_iload_n jx jb d_NumberForm_firstShifted_1 rfl (lv_at jl 0 rfl) ?_
  refine z_backe (va_runS (As := [.int (iZ R1)]) (rest := [.int (iZ 1)]) ⟨jx, jb, jml, jown, jts⟩ (c_NF_shortBits l D cI cB cZ R1 (by first | assumption | omega)) (zc_S 1 jts cd_NumberForm_shortBits lk_NumberForm_13 st_NumberForm_shortBits in_NumberForm hd_NumberForm_shortBits ⟨Nat.le_of_ble_eq_true rfl, Nat.le_of_ble_eq_true rfl⟩ rfl rfl) (z_preSR jK jP [] rfl) rfl rfl jl.1 rfl (lv_room (Nat.le_of_ble_eq_true rfl)) d_NumberForm_firstShifted_2 ⟨Nat.le_of_ble_eq_true rfl, Nat.le_of_ble_eq_true rfl⟩) ?_
  refine z_ishl jx jb d_NumberForm_firstShifted_5 (numK R1) (2 ^ (numK R1)) (rfl) (⟨rfl, by omega⟩) ?_
  refine z_top (2 ^ (numK R1)) (Int.one_mul _) ?_
  exact jret _ _ _ (Or.inl rfl) (rfl) d_NumberForm_firstShifted_6
abbrev rm_NF_firstLong : Room := { frames := 3, cells := 0, slots := 0, locals := 61 }
set_option maxHeartbeats 4000000 in
set_option maxRecDepth 100000 in
theorem c_NF_firstLong (l : Launch) (D : va_G) (cI cB cZ : ClassId) (R1 : Int) (hR : 0 ≤ R1 ∧ R1 ≤ 100000) : Met l y_NumberForm_firstLong (.code y_NumberForm_firstLong b_NumberForm_firstLong 1 (some .int) :: zT) rm_NF_firstLong (zRc D classes (TY cI cB cZ) [] [.int (iZ R1)]) (zSi (fun z => z = numM R1)) 0 0 (fun _ => False) := by
  refine z_ofr (by decide) (Nat.le_of_ble_eq_true rfl) (Or.inl rfl) ?_
  intro p e s m args below meth c Q E jP jK jret ls jl
  obtain ⟨jx, jb, jrt, jml, jown, jts, jlk⟩ := E
  have jown : s.vm.findClass R_NumberForm = some m.cls := jown
  have jl : lv_has ls 1 [(0, .int (iZ R1))] := jl
  refine lv_iconst (v := iZ 2) jx jb d_NumberForm_firstLong_0 rfl ?_
  refine lv_iload_n jx jb d_NumberForm_firstLong_1 rfl (lv_at jl 0 rfl) ?_
  refine z_backe (va_runS (As := [.int (iZ R1)]) (rest := [.int (iZ 2)]) ⟨jx, jb, jml, jown, jts⟩ (c_NF_firstShifted l D cI cB cZ R1 (by first | assumption | omega)) (zc_S 1 jts cd_NumberForm_firstShifted lk_NumberForm_18 st_NumberForm_firstShifted in_NumberForm hd_NumberForm_firstShifted ⟨Nat.le_of_ble_eq_true rfl, Nat.le_of_ble_eq_true rfl⟩ rfl rfl) (z_preSR jK jP [] rfl) rfl rfl jl.1 rfl (lv_room (Nat.le_of_ble_eq_true rfl)) d_NumberForm_firstLong_2 ⟨Nat.le_of_ble_eq_true rfl, Nat.le_of_ble_eq_true rfl⟩) ?_
  refine z_imul jx jb d_NumberForm_firstLong_5 ?_
  refine lv_iconst (v := iZ 2) jx jb d_NumberForm_firstLong_6 rfl ?_
  refine z_isub jx jb d_NumberForm_firstLong_7 ?_
  refine lv_iload_n jx jb d_NumberForm_firstLong_8 rfl (lv_at jl 0 rfl) ?_
  refine z_isub jx jb d_NumberForm_firstLong_9 ?_
  exact jret _ _ _ (Or.inl rfl) (rfl) d_NumberForm_firstLong_10
abbrev rm_SW_putNumber : Room := { frames := 4, cells := 0, slots := 0, locals := 81 }
set_option maxHeartbeats 4000000 in
set_option maxRecDepth 100000 in
theorem c_SW_putNumber (l : Launch) (D : va_G) (cI cB cZ : ClassId) (sz : Nat) (h : Nat) (hb : Nat) (L : Int) (hd : Int) (hn : Int) (ov : Int) (ts : Int) (tb : Int) (f : Nat → Int) (V : Nat) (B : Nat) (v : Nat) (R1 : Int) (hI : rI V B (B / 8) L hd hn ov f) (hR : 1 ≤ R1 ∧ R1 ≤ 4096) (hv : (v : Int) ≤ R1 + 1) : Met l y_ShareWriter_putNumber (.code y_ShareWriter_putNumber b_ShareWriter_putNumber 4 none :: zT) rm_SW_putNumber (zPc D classes (TY cI cB cZ) [(h, .inr (0, [.ref hb, .int (iZ L), .int (iZ hd), .int (iZ hn), .int (iZ ov), .int (iZ ts), .int (iZ tb)])), (hb, .inl (cB, 6000, .inl (zA f)))] sz [.int (iZ (v : Int)), .int (iZ R1), .ref h]) (zFv (S := Int × Int × Int × Int × (Nat → Int)) D classes (fun u => rI (V + numX R1 v * 2 ^ B) (B + numN R1 v) ((B + numN R1 v) / 8) u.1 u.2.1 u.2.2.1 u.2.2.2.1 u.2.2.2.2) (fun u => [(h, .inr (0, [.ref hb, .int (iZ u.1), .int (iZ u.2.1), .int (iZ u.2.2.1), .int (iZ u.2.2.2.1), .int (iZ ts), .int (iZ tb)])), (hb, .inl (cB, 6000, .inl (zA u.2.2.2.2)))]) (va_A [(h, .inr (0, [.ref hb, .int (iZ L), .int (iZ hd), .int (iZ hn), .int (iZ ov), .int (iZ ts), .int (iZ tb)])), (hb, .inl (cB, 6000, .inl (zA f)))] sz)) 0 0 (va_A [(h, .inr (0, [.ref hb, .int (iZ L), .int (iZ hd), .int (iZ hn), .int (iZ ov), .int (iZ ts), .int (iZ tb)])), (hb, .inl (cB, 6000, .inl (zA f)))] sz) := by
  refine z_ofv (by decide) (Nat.le_of_ble_eq_true rfl) rfl ?_
  intro p e s m args below meth c A Q E jmn jA jK jret H locs jP jD jS ls jl
  obtain ⟨jx, jb, jrt, jml, jown, jts, jlk⟩ := E
  have jown : s.vm.findClass R_ShareWriter = some m.cls := jown
  have hf := num_facts hR.1 hR.2
  have jl : lv_has ls 4 [(0, .int (iZ (v : Int))), (1, .int (iZ R1)), (2, .ref h)] := jl
  refine lv_iload_n jx jb d_ShareWriter_putNumber_0 rfl (lv_at jl 1 rfl) ?_
  refine z_backe (va_runS (As := [.int (iZ R1)]) (rest := []) ⟨jx, jb, jml, jown, jts⟩ (c_NF_firstLong l D cI cB cZ R1 (by first | assumption | omega)) (zc_S 1 jts cd_NumberForm_firstLong lk_ShareWriter_47 st_NumberForm_firstLong in_NumberForm hd_NumberForm_firstLong ⟨Nat.le_of_ble_eq_true rfl, Nat.le_of_ble_eq_true rfl⟩ rfl rfl) (z_preSR jK jP [] rfl) rfl rfl jl.1 rfl (lv_room (Nat.le_of_ble_eq_true rfl)) d_ShareWriter_putNumber_1 ⟨Nat.le_of_ble_eq_true rfl, Nat.le_of_ble_eq_true rfl⟩) ?_
  refine lv_istore_n (lv' := [(3, .int (iZ (numM R1))), (0, .int (iZ (v : Int))), (1, .int (iZ R1)), (2, .ref h)]) jx jb d_ShareWriter_putNumber_4 rfl jl (by decide) rfl (fun ls jl => ?_)
  refine lv_iload_n jx jb d_ShareWriter_putNumber_5 rfl (lv_at jl 1 rfl) ?_
  refine lv_iload_n jx jb d_ShareWriter_putNumber_6 rfl (lv_at jl 0 rfl) ?_
  have hkk := numK_le hR.1 hR.2
  refine z_icmp_ge (tgt := 22) jx jb d_ShareWriter_putNumber_7 (by decide) ⟨⟨by omega, by omega⟩, ⟨by omega, by omega⟩⟩ (fun hc7 => ?_) (fun hc7 => ?_)
  ·
    refine lv_aload_n jx jb d_ShareWriter_putNumber_22 rfl (lv_at jl 3 rfl) ?_
    refine lv_iload_n jx jb d_ShareWriter_putNumber_23 rfl (lv_at jl 1 rfl) ?_
    refine lv_iload_n jx jb d_ShareWriter_putNumber_24 rfl (lv_at jl 2 rfl) ?_
    refine z_backe (va_runS (As := [.int (iZ R1)]) (rest := [.int (iZ (v : Int)), .ref h]) ⟨jx, jb, jml, jown, jts⟩ (c_NF_firstShifted l D cI cB cZ R1 (by first | assumption | omega)) (zc_S 1 jts cd_NumberForm_firstShifted lk_ShareWriter_55 st_NumberForm_firstShifted in_NumberForm hd_NumberForm_firstShifted ⟨Nat.le_of_ble_eq_true rfl, Nat.le_of_ble_eq_true rfl⟩ rfl rfl) (z_preSR jK jP [] rfl) rfl rfl jl.1 rfl (lv_room (Nat.le_of_ble_eq_true rfl)) d_ShareWriter_putNumber_25 ⟨Nat.le_of_ble_eq_true rfl, Nat.le_of_ble_eq_true rfl⟩) ?_
    refine z_icmp_ge (tgt := 35) jx jb d_ShareWriter_putNumber_28 (by decide) ⟨⟨by omega, by omega⟩, ⟨by omega, by omega⟩⟩ (fun hc28 => ?_) (fun hc28 => ?_)
    ·
      refine lv_iload_n jx jb d_ShareWriter_putNumber_35 rfl (lv_at jl 1 rfl) ?_
      refine lv_iload_n jx jb d_ShareWriter_putNumber_36 rfl (lv_at jl 0 rfl) ?_
      refine z_iadd jx jb d_ShareWriter_putNumber_37 ?_
      refine z_top ((v + (numM R1).toNat : Nat) : Int) (by omega) ?_
      refine lv_iload_n jx jb d_ShareWriter_putNumber_38 rfl (lv_at jl 2 rfl) ?_
      refine z_backe (va_runS (As := [.int (iZ R1)]) (rest := [.int (iZ ((v + (numM R1).toNat : Nat) : Int)), .ref h]) ⟨jx, jb, jml, jown, jts⟩ (c_NF_shortBits l D cI cB cZ R1 (by first | assumption | omega)) (zc_S 1 jts cd_NumberForm_shortBits lk_ShareWriter_52 st_NumberForm_shortBits in_NumberForm hd_NumberForm_shortBits ⟨Nat.le_of_ble_eq_true rfl, Nat.le_of_ble_eq_true rfl⟩ rfl rfl) (z_preSR jK jP [] rfl) rfl rfl jl.1 rfl (lv_room (Nat.le_of_ble_eq_true rfl)) d_ShareWriter_putNumber_39 ⟨Nat.le_of_ble_eq_true rfl, Nat.le_of_ble_eq_true rfl⟩) ?_
      refine lv_iconst (v := iZ 1) jx jb d_ShareWriter_putNumber_42 rfl ?_
      refine z_iadd jx jb d_ShareWriter_putNumber_43 ?_
      refine z_backv (wr := []) jP jD jS jA [0, 1] [] rfl rfl (by decide) (by decide) (va_runV (As := [.int (iZ ((v + (numM R1).toNat : Nat) : Int)), .int (iZ ((numK R1 : Int) + 1))]) (rest := []) ⟨jx, jb, jml, jown, jts⟩ (c_Row_putBits l D cI cB cZ H.size h hb L hd hn ov ts tb f (v + (numM R1).toNat : Nat) (numK R1 + 1) V B (hI) (by first | exact num_x2 hR.1 hR.2 (by omega) | exact num_x3 hR.1 hR.2 (by omega)) (by omega)) (zc_V 2 jts cd_Row_putBits lk_ShareWriter_20 im_Row_putBits se_Row_putBits in_Row hd_Row_putBits ⟨Nat.le_of_ble_eq_true rfl, Nat.le_of_ble_eq_true rfl⟩ rfl rfl) (z_preV jK jP jD [0, 1] (by decide) rfl rfl rfl rfl) rfl rfl jl.1 rfl (lv_room (Nat.le_of_ble_eq_true rfl)) d_ShareWriter_putNumber_44 ⟨Nat.le_of_ble_eq_true rfl, Nat.le_of_ble_eq_true rfl⟩) (fun u44 H locs hu44 jP jD jS => ?_)
      obtain ⟨L1_44, hd1_44, hn1_44, ov1_44, f1_44⟩ := u44
      have jP : va_P D classes [(h, .inr (0, [.ref hb, .int (iZ L1_44), .int (iZ hd1_44), .int (iZ hn1_44), .int (iZ ov1_44), .int (iZ ts), .int (iZ tb)])), (hb, .inl (cB, 6000, .inl (zA f1_44)))] H := jP.sub [0, 1] rfl
      have jD : va_D A [(h, .inr (0, [.ref hb, .int (iZ L1_44), .int (iZ hd1_44), .int (iZ hn1_44), .int (iZ ov1_44), .int (iZ ts), .int (iZ tb)])), (hb, .inl (cB, 6000, .inl (zA f1_44)))] := jD.sub [0, 1] (by decide) rfl
      exact jret _ _ (L1_44, hd1_44, hn1_44, ov1_44, f1_44) _ _ (by first | (rw [numX_1 (by omega), numN_1 (by omega)]; exact hu16) | (rw [numX_2 (by omega) (by omega), numN_2 (by omega)]; exact hu44) | (rw [numX_3 (by omega) (by omega), numN_2 (by omega)]; exact hu44)) (jP.sub [0, 1] rfl) (jD.sub [0, 1] (by decide) rfl) jS d_ShareWriter_putNumber_47
    ·
      refine lv_iload_n jx jb d_ShareWriter_putNumber_31 rfl (lv_at jl 1 rfl) ?_
      refine lv_goto (tgt := 38) jx jb d_ShareWriter_putNumber_32 (by decide) ?_
      refine lv_iload_n jx jb d_ShareWriter_putNumber_38 rfl (lv_at jl 2 rfl) ?_
      refine z_backe (va_runS (As := [.int (iZ R1)]) (rest := [.int (iZ (v : Int)), .ref h]) ⟨jx, jb, jml, jown, jts⟩ (c_NF_shortBits l D cI cB cZ R1 (by first | assumption | omega)) (zc_S 1 jts cd_NumberForm_shortBits lk_ShareWriter_52 st_NumberForm_shortBits in_NumberForm hd_NumberForm_shortBits ⟨Nat.le_of_ble_eq_true rfl, Nat.le_of_ble_eq_true rfl⟩ rfl rfl) (z_preSR jK jP [] rfl) rfl rfl jl.1 rfl (lv_room (Nat.le_of_ble_eq_true rfl)) d_ShareWriter_putNumber_39 ⟨Nat.le_of_ble_eq_true rfl, Nat.le_of_ble_eq_true rfl⟩) ?_
      refine lv_iconst (v := iZ 1) jx jb d_ShareWriter_putNumber_42 rfl ?_
      refine z_iadd jx jb d_ShareWriter_putNumber_43 ?_
      refine z_backv (wr := []) jP jD jS jA [0, 1] [] rfl rfl (by decide) (by decide) (va_runV (As := [.int (iZ (v : Int)), .int (iZ ((numK R1 : Int) + 1))]) (rest := []) ⟨jx, jb, jml, jown, jts⟩ (c_Row_putBits l D cI cB cZ H.size h hb L hd hn ov ts tb f v (numK R1 + 1) V B (hI) (by first | exact num_x2 hR.1 hR.2 (by omega) | exact num_x3 hR.1 hR.2 (by omega)) (by omega)) (zc_V 2 jts cd_Row_putBits lk_ShareWriter_20 im_Row_putBits se_Row_putBits in_Row hd_Row_putBits ⟨Nat.le_of_ble_eq_true rfl, Nat.le_of_ble_eq_true rfl⟩ rfl rfl) (z_preV jK jP jD [0, 1] (by decide) rfl rfl rfl rfl) rfl rfl jl.1 rfl (lv_room (Nat.le_of_ble_eq_true rfl)) d_ShareWriter_putNumber_44 ⟨Nat.le_of_ble_eq_true rfl, Nat.le_of_ble_eq_true rfl⟩) (fun u44 H locs hu44 jP jD jS => ?_)
      obtain ⟨L1_44, hd1_44, hn1_44, ov1_44, f1_44⟩ := u44
      have jP : va_P D classes [(h, .inr (0, [.ref hb, .int (iZ L1_44), .int (iZ hd1_44), .int (iZ hn1_44), .int (iZ ov1_44), .int (iZ ts), .int (iZ tb)])), (hb, .inl (cB, 6000, .inl (zA f1_44)))] H := jP.sub [0, 1] rfl
      have jD : va_D A [(h, .inr (0, [.ref hb, .int (iZ L1_44), .int (iZ hd1_44), .int (iZ hn1_44), .int (iZ ov1_44), .int (iZ ts), .int (iZ tb)])), (hb, .inl (cB, 6000, .inl (zA f1_44)))] := jD.sub [0, 1] (by decide) rfl
      exact jret _ _ (L1_44, hd1_44, hn1_44, ov1_44, f1_44) _ _ (by first | (rw [numX_1 (by omega), numN_1 (by omega)]; exact hu16) | (rw [numX_2 (by omega) (by omega), numN_2 (by omega)]; exact hu44) | (rw [numX_3 (by omega) (by omega), numN_2 (by omega)]; exact hu44)) (jP.sub [0, 1] rfl) (jD.sub [0, 1] (by decide) rfl) jS d_ShareWriter_putNumber_47
  ·
    refine lv_aload_n jx jb d_ShareWriter_putNumber_10 rfl (lv_at jl 3 rfl) ?_
    refine lv_iload_n jx jb d_ShareWriter_putNumber_11 rfl (lv_at jl 1 rfl) ?_
    refine lv_iload_n jx jb d_ShareWriter_putNumber_12 rfl (lv_at jl 2 rfl) ?_
    refine z_backe (va_runS (As := [.int (iZ R1)]) (rest := [.int (iZ (v : Int)), .ref h]) ⟨jx, jb, jml, jown, jts⟩ (c_NF_shortBits l D cI cB cZ R1 (by first | assumption | omega)) (zc_S 1 jts cd_NumberForm_shortBits lk_ShareWriter_52 st_NumberForm_shortBits in_NumberForm hd_NumberForm_shortBits ⟨Nat.le_of_ble_eq_true rfl, Nat.le_of_ble_eq_true rfl⟩ rfl rfl) (z_preSR jK jP [] rfl) rfl rfl jl.1 rfl (lv_room (Nat.le_of_ble_eq_true rfl)) d_ShareWriter_putNumber_13 ⟨Nat.le_of_ble_eq_true rfl, Nat.le_of_ble_eq_true rfl⟩) ?_
    refine z_backv (wr := []) jP jD jS jA [0, 1] [] rfl rfl (by decide) (by decide) (va_runV (As := [.int (iZ (v : Int)), .int (iZ (numK R1 : Int))]) (rest := []) ⟨jx, jb, jml, jown, jts⟩ (c_Row_putBits l D cI cB cZ H.size h hb L hd hn ov ts tb f v (numK R1) V B (hI) (num_x1 hR.1 hR.2 (by omega)) (by omega)) (zc_V 2 jts cd_Row_putBits lk_ShareWriter_20 im_Row_putBits se_Row_putBits in_Row hd_Row_putBits ⟨Nat.le_of_ble_eq_true rfl, Nat.le_of_ble_eq_true rfl⟩ rfl rfl) (z_preV jK jP jD [0, 1] (by decide) rfl rfl rfl rfl) rfl rfl jl.1 rfl (lv_room (Nat.le_of_ble_eq_true rfl)) d_ShareWriter_putNumber_16 ⟨Nat.le_of_ble_eq_true rfl, Nat.le_of_ble_eq_true rfl⟩) (fun u16 H locs hu16 jP jD jS => ?_)
    obtain ⟨L1_16, hd1_16, hn1_16, ov1_16, f1_16⟩ := u16
    have jP : va_P D classes [(h, .inr (0, [.ref hb, .int (iZ L1_16), .int (iZ hd1_16), .int (iZ hn1_16), .int (iZ ov1_16), .int (iZ ts), .int (iZ tb)])), (hb, .inl (cB, 6000, .inl (zA f1_16)))] H := jP.sub [0, 1] rfl
    have jD : va_D A [(h, .inr (0, [.ref hb, .int (iZ L1_16), .int (iZ hd1_16), .int (iZ hn1_16), .int (iZ ov1_16), .int (iZ ts), .int (iZ tb)])), (hb, .inl (cB, 6000, .inl (zA f1_16)))] := jD.sub [0, 1] (by decide) rfl
    refine lv_goto (tgt := 47) jx jb d_ShareWriter_putNumber_19 (by decide) ?_
    exact jret _ _ (L1_16, hd1_16, hn1_16, ov1_16, f1_16) _ _ (by first | (rw [numX_1 (by omega), numN_1 (by omega)]; exact hu16) | (rw [numX_2 (by omega) (by omega), numN_2 (by omega)]; exact hu44) | (rw [numX_3 (by omega) (by omega), numN_2 (by omega)]; exact hu44)) (jP.sub [0, 1] rfl) (jD.sub [0, 1] (by decide) rfl) jS d_ShareWriter_putNumber_47
end
section
/-! booleans in arrays, and unsigned shifts of longs -/
theorem iZ_narZ {x : Int} (h : x = 0 ∨ x = 1) : vp_nar .boolean (iZ x) = iZ x := by rcases h with rfl | rfl <;> rfl
section ZBOOL
variable {p : Program} {l : Launch} {e : Env} {R : Room} {s : State} {m : MethodId} {args : Array Value} {below : List Frame} {meth : Method} {c : Code} {H : Heap} {locs : List Loc} {cells slots : Nat} {Q : State → Prop}
variable {cc : ByteArray} {pc : Nat} {ls : Array Slot} {rest : List Value} {a b : Int}
variable {D : va_G} {cl : List vw_C} {A : Nat → Prop} {ad : Nat} {tys : List (ClassId × FieldType)} {ws : va_W} {H0 : Heap} {cA : ClassId} {n : Nat} {g : Nat → Int}
theorem z_zald (hx : p.tables.exec = Jvm.exec) (hb : c.code = cc) (hK : va_K D cl tys s) (hP : va_P D cl ws H) (q0 t0 : Nat) (ha : ws[q0]? = some (ad, .inl (cA, n, .inl (zA g)))) (ht : tys[t0]? = some (cA, .boolean)) (k0 : Nat) (hi : a = k0 ∧ k0 < n ∧ n ≤ 2147483647) (hdg : decode cc pc = .ok (.baload, 1)) (k : W p l e R s m args below meth c H locs cells slots Q (F0 m (pc + 1) ls (.int (iZ (g k0)) :: rest))) : W p l e R s m args below meth c H locs cells slots Q (F0 m (pc) ls (.int (iZ a) :: .ref ad :: rest)) := va_zald hx hb hK hP q0 t0 ha ht (iZ_in (by omega) (by omega) (by omega)) hdg (by rw [iZ_cl (by omega) (by omega), hi.1]; exact k)
theorem z_zast (hx : p.tables.exec = Jvm.exec) (hb : c.code = cc) (hK : va_K D cl tys s) (hP : va_P D cl ws H) (hD : va_D A ws) (hS : va_S A H0 H locs) (q0 t0 : Nat) (ha : ws[q0]? = some (ad, .inl (cA, n, .inl (zA g)))) (ht : tys[t0]? = some (cA, .boolean)) (k0 : Nat) {x : Int} (hi : a = k0 ∧ k0 < n ∧ n ≤ 2147483647) (hz : x = 0 ∨ x = 1) (hdg : decode cc pc = .ok (.bastore, 1)) (k : ∀ (H1 : Heap) (locs1 : List Loc), va_P D cl (ws.set q0 (ad, .inl (cA, n, .inl (zA (zu g k0 x))))) H1 → va_D A (ws.set q0 (ad, .inl (cA, n, .inl (zA (zu g k0 x))))) → va_S A H0 H1 locs1 → W p l e R s m args below meth c H1 locs1 cells slots Q (F0 m (pc + 1) ls (rest))) : W p l e R s m args below meth c H locs cells slots Q (F0 m (pc) ls (.int (iZ x) :: .int (iZ a) :: .ref ad :: rest)) := by
  refine va_zast hx hb hK hP hD hS q0 t0 ha ht (iZ_in (by omega) (by omega) (by omega)) hdg (fun H1 locs1 h1 h2 h3 => ?_)
  rw [iZ_cl (by omega) (by omega), hi.1, Int.toNat_natCast, iZ_narZ hz, zA_u] at h1 h2
  exact k H1 locs1 h1 h2 h3
end ZBOOL
/-! counting cells -/
def cntS (g : Nat → Int) (v : Int) : Nat → Int
  | 0 => 0
  | n + 1 => cntS g v n + (if g n = v then 1 else 0)
theorem cntS_lo (g : Nat → Int) (v : Int) : ∀ n : Nat, 0 ≤ cntS g v n ∧ cntS g v n ≤ n
  | 0 => ⟨Int.le_refl 0, Int.le_refl 0⟩
  | n + 1 => by
    have := cntS_lo g v n
    show 0 ≤ cntS g v n + (if g n = v then 1 else 0) ∧ cntS g v n + (if g n = v then 1 else 0) ≤ ((n + 1 : Nat) : Int)
    split <;> omega
theorem cntS_s {g : Nat → Int} {v : Int} {n : Nat} (h : g n = v) : cntS g v (n + 1) = cntS g v n + 1 := by
  show cntS g v n + (if g n = v then 1 else 0) = _
  rw [if_pos h]
theorem cntS_n {g : Nat → Int} {v : Int} {n : Nat} (h : g n ≠ v) : cntS g v (n + 1) = cntS g v n := by
  show cntS g v n + (if g n = v then 1 else 0) = _
  rw [if_neg h, Int.add_zero]
theorem p2_lt {k m : Nat} {x : Int} (h : (2 : Int) ^ k ≤ x) (hx : x < 2 ^ m) : k < m := by
  rcases Nat.lt_or_ge k m with q | q
  · exact q
  · have := p2_le q
    omega
theorem p2_s (k : Nat) : (2 : Int) ^ (k + 1) = 2 * 2 ^ k := by rw [Int.pow_succ, Int.mul_comm]
def lastI (xp : Nat → Int) (i : Nat) (v : Int) : Prop := (v = -1 ∧ ∀ k, k < i → xp k = 0) ∨ ∃ n : Nat, v = (n : Int) ∧ n < i ∧ xp n ≠ 0 ∧ ∀ k, n < k → k < i → xp k = 0
theorem last_n {xp : Nat → Int} {i : Nat} {v : Int} (_ : lastI xp i v) (h : xp i ≠ 0) : lastI xp (i + 1) (i : Int) :=
  Or.inr ⟨i, rfl, by omega, h, fun k a b => absurd a (by omega)⟩
theorem last_z {xp : Nat → Int} {i : Nat} {v : Int} (hv : lastI xp i v) (h : xp i = 0) : lastI xp (i + 1) v := by
  rcases hv with ⟨h1, h2⟩ | ⟨n, h1, h2, h3, h4⟩
  · refine Or.inl ⟨h1, fun k hk => ?_⟩
    by_cases e : k = i
    · rw [e]; exact h
    · exact h2 k (by omega)
  · refine Or.inr ⟨n, h1, by omega, h3, fun k a b => ?_⟩
    by_cases e : k = i
    · rw [e]; exact h
    · exact h4 k a (by omega)
theorem last_e {xp : Nat → Int} {i : Nat} {v : Int} (hv : lastI xp i v) (h : i = 256) : (v = -1 ∧ ∀ k, k < 256 → xp k = 0) ∨ ∃ n : Nat, v = (n : Int) ∧ n ≤ 255 ∧ xp n ≠ 0 ∧ ∀ k, n < k → k ≤ 255 → xp k = 0 := by
  subst h
  rcases hv with h1 | ⟨n, h1, h2, h3, h4⟩
  · exact Or.inl h1
  · exact Or.inr ⟨n, h1, by omega, h3, fun k a b => h4 k a (by omega)⟩
end
section
theorem fl_Mod_42 : Cond.fieldLink R_Mod 42 "StateCoderModel" "goesOn" "I" ∈ zT := zT_of (List.mem_of_getElem? (i := 484) (by decide +kernel)) rfl
theorem fl_Mod_39 : Cond.fieldLink R_Mod 39 "StateCoderModel" "outLong" "I" ∈ zT := zT_of (List.mem_of_getElem? (i := 486) (by decide +kernel)) rfl
theorem fl_Mod_13 : Cond.fieldLink R_Mod 13 "StateCoderModel" "out" "[I" ∈ zT := zT_of (List.mem_of_getElem? (i := 485) (by decide +kernel)) rfl
theorem fl_Mod_35 : Cond.fieldLink R_Mod 35 "StateCoderModel" "inLong" "I" ∈ zT := zT_of (List.mem_of_getElem? (i := 483) (by decide +kernel)) rfl
theorem cn_Mod_45 : Cond.constant R_Mod 45 (iZ 65535) ∈ zT := zT_of (List.mem_of_getElem? (i := 550) (by decide +kernel)) rfl
theorem fl_Mod_16 : Cond.fieldLink R_Mod 16 "StateCoderModel" "counts" "[I" ∈ zT := zT_of (List.mem_of_getElem? (i := 487) (by decide +kernel)) rfl
theorem fl_Mod_50 : Cond.fieldLink R_Mod 50 "StateCoderModel" "order" "I" ∈ zT := zT_of (List.mem_of_getElem? (i := 488) (by decide +kernel)) rfl
theorem fl_Mod_19 : Cond.fieldLink R_Mod 19 "StateCoderModel" "points" "[I" ∈ zT := zT_of (List.mem_of_getElem? (i := 489) (by decide +kernel)) rfl
theorem cd_Mod_last : Cond.code y_Mod_last b_Mod_last 3 (some .int) ∈ zT := zT_of (List.mem_of_getElem? (i := 639) (by decide +kernel)) rfl
theorem in_Mod : Cond.initialized R_Mod ∈ zT := zT_of (List.mem_of_getElem? (i := 39) (by decide +kernel)) rfl
theorem hd_Mod_last : y_Mod_last.cls ≠ "java/lang/invoke/MethodHandle" ∧ y_Mod_last.cls ≠ "java/lang/invoke/VarHandle" ∧ (parseMethodDescriptor y_Mod_last.desc).map (fun d => d.parameters.length) = some 0 := by decide +kernel
theorem lk_Mod_109 : Cond.methodLink R_Mod 109 y_Mod_last ∈ zT := zT_of (List.mem_of_getElem? (i := 636) (by decide +kernel)) rfl
theorem im_Mod_last : Cond.instanceMethod y_Mod_last ∈ zT := zT_of (List.mem_of_getElem? (i := 638) (by decide +kernel)) rfl
theorem se_Mod_last : Cond.selects R_Mod y_Mod_last y_Mod_last ∈ zT := zT_of (List.mem_of_getElem? (i := 24) (by decide +kernel)) rfl
theorem cd_Mod_bitsOf : Cond.code y_Mod_bitsOf b_Mod_bitsOf 3 (some .int) ∈ zT := zT_of (List.mem_of_getElem? (i := 655) (by decide +kernel)) rfl
theorem hd_Mod_bitsOf : y_Mod_bitsOf.cls ≠ "java/lang/invoke/MethodHandle" ∧ y_Mod_bitsOf.cls ≠ "java/lang/invoke/VarHandle" ∧ (parseMethodDescriptor y_Mod_bitsOf.desc).map (fun d => d.parameters.length) = some 1 := by decide +kernel
theorem lk_Mod_112 : Cond.methodLink R_Mod 112 y_Mod_bitsOf ∈ zT := zT_of (List.mem_of_getElem? (i := 652) (by decide +kernel)) rfl
theorem im_Mod_bitsOf : Cond.instanceMethod y_Mod_bitsOf ∈ zT := zT_of (List.mem_of_getElem? (i := 654) (by decide +kernel)) rfl
theorem se_Mod_bitsOf : Cond.selects R_Mod y_Mod_bitsOf y_Mod_bitsOf ∈ zT := zT_of (List.mem_of_getElem? (i := 26) (by decide +kernel)) rfl
theorem fl_Mod_22 : Cond.fieldLink R_Mod 22 "StateCoderModel" "symbolOf" "[I" ∈ zT := zT_of (List.mem_of_getElem? (i := 490) (by decide +kernel)) rfl
theorem cd_Mod_weight : Cond.code y_Mod_weight b_Mod_weight 1 (some .int) ∈ zT := zT_of (List.mem_of_getElem? (i := 568) (by decide +kernel)) rfl
theorem hd_Mod_weight : y_Mod_weight.cls ≠ "java/lang/invoke/MethodHandle" ∧ y_Mod_weight.cls ≠ "java/lang/invoke/VarHandle" ∧ (parseMethodDescriptor y_Mod_weight.desc).map (fun d => d.parameters.length) = some 1 := by decide +kernel
theorem lk_Mod_46 : Cond.methodLink R_Mod 46 y_Mod_weight ∈ zT := zT_of (List.mem_of_getElem? (i := 566) (by decide +kernel)) rfl
theorem st_Mod_weight : Cond.static y_Mod_weight ∈ zT := zT_of (List.mem_of_getElem? (i := 567) (by decide +kernel)) rfl
theorem d_Mod_weight_0 : decode b_Mod_weight 0 = .ok (.iload_n 0, 1) := by decide +kernel
theorem d_Mod_weight_1 : decode b_Mod_weight 1 = .ok (.ifCond .ge 7, 3) := by decide +kernel
theorem d_Mod_weight_4 : decode b_Mod_weight 4 = .ok (.iconst 1, 1) := by decide +kernel
theorem d_Mod_weight_5 : decode b_Mod_weight 5 = .ok (.goto 4, 3) := by decide +kernel
theorem d_Mod_weight_8 : decode b_Mod_weight 8 = .ok (.iload_n 0, 1) := by decide +kernel
theorem d_Mod_weight_9 : decode b_Mod_weight 9 = .ok (.ireturn, 1) := by decide +kernel
theorem d_Mod_isOrder_0 : decode b_Mod_isOrder 0 = .ok (.iload_n 0, 1) := by decide +kernel
theorem d_Mod_isOrder_1 : decode b_Mod_isOrder 1 = .ok (.iconst 5, 1) := by decide +kernel
theorem d_Mod_isOrder_2 : decode b_Mod_isOrder 2 = .ok (.if_icmp .lt 13, 3) := by decide +kernel
theorem d_Mod_isOrder_5 : decode b_Mod_isOrder 5 = .ok (.iload_n 0, 1) := by decide +kernel
theorem d_Mod_isOrder_6 : decode b_Mod_isOrder 6 = .ok (.bipush 12, 2) := by decide +kernel
theorem d_Mod_isOrder_8 : decode b_Mod_isOrder 8 = .ok (.if_icmp .gt 7, 3) := by decide +kernel
theorem d_Mod_isOrder_11 : decode b_Mod_isOrder 11 = .ok (.iconst 1, 1) := by decide +kernel
theorem d_Mod_isOrder_12 : decode b_Mod_isOrder 12 = .ok (.goto 4, 3) := by decide +kernel
theorem d_Mod_isOrder_15 : decode b_Mod_isOrder 15 = .ok (.iconst 0, 1) := by decide +kernel
theorem d_Mod_isOrder_16 : decode b_Mod_isOrder 16 = .ok (.ireturn, 1) := by decide +kernel
theorem d_Mod_at_0 : decode b_Mod_at 0 = .ok (.aload_n 0, 1) := by decide +kernel
theorem d_Mod_at_1 : decode b_Mod_at 1 = .ok (.getfield 42, 3) := by decide +kernel
theorem d_Mod_at_4 : decode b_Mod_at 4 = .ok (.ireturn, 1) := by decide +kernel
theorem d_Mod_size_0 : decode b_Mod_size 0 = .ok (.aload_n 0, 1) := by decide +kernel
theorem d_Mod_size_1 : decode b_Mod_size 1 = .ok (.getfield 39, 3) := by decide +kernel
theorem d_Mod_size_4 : decode b_Mod_size 4 = .ok (.ireturn, 1) := by decide +kernel
theorem d_Mod_byteAt_0 : decode b_Mod_byteAt 0 = .ok (.iload_n 1, 1) := by decide +kernel
theorem d_Mod_byteAt_1 : decode b_Mod_byteAt 1 = .ok (.ifCond .lt 11, 3) := by decide +kernel
theorem d_Mod_byteAt_4 : decode b_Mod_byteAt 4 = .ok (.iload_n 1, 1) := by decide +kernel
theorem d_Mod_byteAt_5 : decode b_Mod_byteAt 5 = .ok (.aload_n 0, 1) := by decide +kernel
theorem d_Mod_byteAt_6 : decode b_Mod_byteAt 6 = .ok (.getfield 39, 3) := by decide +kernel
theorem d_Mod_byteAt_9 : decode b_Mod_byteAt 9 = .ok (.if_icmp .lt 7, 3) := by decide +kernel
theorem d_Mod_byteAt_12 : decode b_Mod_byteAt 12 = .ok (.iconst (-1), 1) := by decide +kernel
theorem d_Mod_byteAt_13 : decode b_Mod_byteAt 13 = .ok (.goto 9, 3) := by decide +kernel
theorem d_Mod_byteAt_16 : decode b_Mod_byteAt 16 = .ok (.aload_n 0, 1) := by decide +kernel
theorem d_Mod_byteAt_17 : decode b_Mod_byteAt 17 = .ok (.getfield 13, 3) := by decide +kernel
theorem d_Mod_byteAt_20 : decode b_Mod_byteAt 20 = .ok (.iload_n 1, 1) := by decide +kernel
theorem d_Mod_byteAt_21 : decode b_Mod_byteAt 21 = .ok (.iaload, 1) := by decide +kernel
theorem d_Mod_byteAt_22 : decode b_Mod_byteAt 22 = .ok (.ireturn, 1) := by decide +kernel
theorem d_Mod_place_0 : decode b_Mod_place 0 = .ok (.iload_n 1, 1) := by decide +kernel
theorem d_Mod_place_1 : decode b_Mod_place 1 = .ok (.ifCond .lt 11, 3) := by decide +kernel
theorem d_Mod_place_4 : decode b_Mod_place 4 = .ok (.iload_n 1, 1) := by decide +kernel
theorem d_Mod_place_5 : decode b_Mod_place 5 = .ok (.aload_n 0, 1) := by decide +kernel
theorem d_Mod_place_6 : decode b_Mod_place 6 = .ok (.getfield 35, 3) := by decide +kernel
theorem d_Mod_place_9 : decode b_Mod_place 9 = .ok (.if_icmp .le 5, 3) := by decide +kernel
theorem d_Mod_place_12 : decode b_Mod_place 12 = .ok (.iconst 0, 1) := by decide +kernel
theorem d_Mod_place_13 : decode b_Mod_place 13 = .ok (.ireturn, 1) := by decide +kernel
theorem d_Mod_place_14 : decode b_Mod_place 14 = .ok (.aload_n 0, 1) := by decide +kernel
theorem d_Mod_place_15 : decode b_Mod_place 15 = .ok (.iload_n 1, 1) := by decide +kernel
theorem d_Mod_place_16 : decode b_Mod_place 16 = .ok (.putfield 42, 3) := by decide +kernel
theorem d_Mod_place_19 : decode b_Mod_place 19 = .ok (.iconst 1, 1) := by decide +kernel
theorem d_Mod_place_20 : decode b_Mod_place 20 = .ok (.ireturn, 1) := by decide +kernel
theorem d_Mod_count_0 : decode b_Mod_count 0 = .ok (.iload_n 1, 1) := by decide +kernel
theorem d_Mod_count_1 : decode b_Mod_count 1 = .ok (.ifCond .lt 20, 3) := by decide +kernel
theorem d_Mod_count_4 : decode b_Mod_count 4 = .ok (.iload_n 1, 1) := by decide +kernel
theorem d_Mod_count_5 : decode b_Mod_count 5 = .ok (.sipush 256, 3) := by decide +kernel
theorem d_Mod_count_8 : decode b_Mod_count 8 = .ok (.if_icmp .ge 13, 3) := by decide +kernel
theorem d_Mod_count_11 : decode b_Mod_count 11 = .ok (.iload_n 2, 1) := by decide +kernel
theorem d_Mod_count_12 : decode b_Mod_count 12 = .ok (.ifCond .lt 9, 3) := by decide +kernel
theorem d_Mod_count_15 : decode b_Mod_count 15 = .ok (.iload_n 2, 1) := by decide +kernel
theorem d_Mod_count_16 : decode b_Mod_count 16 = .ok (.ldc 45, 2) := by decide +kernel
theorem d_Mod_count_18 : decode b_Mod_count 18 = .ok (.if_icmp .le 5, 3) := by decide +kernel
theorem d_Mod_count_21 : decode b_Mod_count 21 = .ok (.iconst 0, 1) := by decide +kernel
theorem d_Mod_count_22 : decode b_Mod_count 22 = .ok (.ireturn, 1) := by decide +kernel
theorem d_Mod_count_23 : decode b_Mod_count 23 = .ok (.aload_n 0, 1) := by decide +kernel
theorem d_Mod_count_24 : decode b_Mod_count 24 = .ok (.getfield 16, 3) := by decide +kernel
theorem d_Mod_count_27 : decode b_Mod_count 27 = .ok (.iload_n 1, 1) := by decide +kernel
theorem d_Mod_count_28 : decode b_Mod_count 28 = .ok (.iload_n 2, 1) := by decide +kernel
theorem d_Mod_count_29 : decode b_Mod_count 29 = .ok (.iastore, 1) := by decide +kernel
theorem d_Mod_count_30 : decode b_Mod_count 30 = .ok (.iconst 1, 1) := by decide +kernel
theorem d_Mod_count_31 : decode b_Mod_count 31 = .ok (.ireturn, 1) := by decide +kernel
theorem d_Mod_points_0 : decode b_Mod_points 0 = .ok (.aload_n 0, 1) := by decide +kernel
theorem d_Mod_points_1 : decode b_Mod_points 1 = .ok (.getfield 50, 3) := by decide +kernel
theorem d_Mod_points_4 : decode b_Mod_points 4 = .ok (.ifCond .eq 14, 3) := by decide +kernel
theorem d_Mod_points_7 : decode b_Mod_points 7 = .ok (.iload_n 1, 1) := by decide +kernel
theorem d_Mod_points_8 : decode b_Mod_points 8 = .ok (.ifCond .lt 10, 3) := by decide +kernel
theorem d_Mod_points_11 : decode b_Mod_points 11 = .ok (.iload_n 1, 1) := by decide +kernel
theorem d_Mod_points_12 : decode b_Mod_points 12 = .ok (.sipush 256, 3) := by decide +kernel
theorem d_Mod_points_15 : decode b_Mod_points 15 = .ok (.if_icmp .lt 8, 3) := by decide +kernel
theorem d_Mod_points_18 : decode b_Mod_points 18 = .ok (.bipush (-2), 2) := by decide +kernel
theorem d_Mod_points_20 : decode b_Mod_points 20 = .ok (.goto 9, 3) := by decide +kernel
theorem d_Mod_points_23 : decode b_Mod_points 23 = .ok (.aload_n 0, 1) := by decide +kernel
theorem d_Mod_points_24 : decode b_Mod_points 24 = .ok (.getfield 19, 3) := by decide +kernel
theorem d_Mod_points_27 : decode b_Mod_points 27 = .ok (.iload_n 1, 1) := by decide +kernel
theorem d_Mod_points_28 : decode b_Mod_points 28 = .ok (.iaload, 1) := by decide +kernel
theorem d_Mod_points_29 : decode b_Mod_points 29 = .ok (.ireturn, 1) := by decide +kernel
theorem d_Mod_last_0 : decode b_Mod_last 0 = .ok (.iconst (-1), 1) := by decide +kernel
theorem d_Mod_last_1 : decode b_Mod_last 1 = .ok (.istore_n 1, 1) := by decide +kernel
theorem d_Mod_last_2 : decode b_Mod_last 2 = .ok (.iconst 0, 1) := by decide +kernel
theorem d_Mod_last_3 : decode b_Mod_last 3 = .ok (.istore_n 2, 1) := by decide +kernel
theorem d_Mod_last_4 : decode b_Mod_last 4 = .ok (.iload_n 2, 1) := by decide +kernel
theorem d_Mod_last_5 : decode b_Mod_last 5 = .ok (.sipush 256, 3) := by decide +kernel
theorem d_Mod_last_8 : decode b_Mod_last 8 = .ok (.if_icmp .ge 20, 3) := by decide +kernel
theorem d_Mod_last_11 : decode b_Mod_last 11 = .ok (.aload_n 0, 1) := by decide +kernel
theorem d_Mod_last_12 : decode b_Mod_last 12 = .ok (.getfield 19, 3) := by decide +kernel
theorem d_Mod_last_15 : decode b_Mod_last 15 = .ok (.iload_n 2, 1) := by decide +kernel
theorem d_Mod_last_16 : decode b_Mod_last 16 = .ok (.iaload, 1) := by decide +kernel
theorem d_Mod_last_17 : decode b_Mod_last 17 = .ok (.ifCond .eq 5, 3) := by decide +kernel
theorem d_Mod_last_20 : decode b_Mod_last 20 = .ok (.iload_n 2, 1) := by decide +kernel
theorem d_Mod_last_21 : decode b_Mod_last 21 = .ok (.istore_n 1, 1) := by decide +kernel
theorem d_Mod_last_22 : decode b_Mod_last 22 = .ok (.iinc 2 1, 3) := by decide +kernel
theorem d_Mod_last_25 : decode b_Mod_last 25 = .ok (.goto (-21), 3) := by decide +kernel
theorem d_Mod_last_28 : decode b_Mod_last 28 = .ok (.iload_n 1, 1) := by decide +kernel
theorem d_Mod_last_29 : decode b_Mod_last 29 = .ok (.ireturn, 1) := by decide +kernel
theorem d_Mod_about_0 : decode b_Mod_about 0 = .ok (.aload_n 0, 1) := by decide +kernel
theorem d_Mod_about_1 : decode b_Mod_about 1 = .ok (.getfield 50, 3) := by decide +kernel
theorem d_Mod_about_4 : decode b_Mod_about 4 = .ok (.ifCond .ne 7, 3) := by decide +kernel
theorem d_Mod_about_7 : decode b_Mod_about 7 = .ok (.iconst (-1), 1) := by decide +kernel
theorem d_Mod_about_8 : decode b_Mod_about 8 = .ok (.goto 27, 3) := by decide +kernel
theorem d_Mod_about_11 : decode b_Mod_about 11 = .ok (.iload_n 1, 1) := by decide +kernel
theorem d_Mod_about_12 : decode b_Mod_about 12 = .ok (.ifCond .ne 10, 3) := by decide +kernel
theorem d_Mod_about_15 : decode b_Mod_about 15 = .ok (.aload_n 0, 1) := by decide +kernel
theorem d_Mod_about_16 : decode b_Mod_about 16 = .ok (.getfield 50, 3) := by decide +kernel
theorem d_Mod_about_19 : decode b_Mod_about 19 = .ok (.goto 16, 3) := by decide +kernel
theorem d_Mod_about_22 : decode b_Mod_about 22 = .ok (.iload_n 1, 1) := by decide +kernel
theorem d_Mod_about_23 : decode b_Mod_about 23 = .ok (.iconst 1, 1) := by decide +kernel
theorem d_Mod_about_24 : decode b_Mod_about 24 = .ok (.if_icmp .ne 10, 3) := by decide +kernel
theorem d_Mod_about_27 : decode b_Mod_about 27 = .ok (.aload_n 0, 1) := by decide +kernel
theorem d_Mod_about_28 : decode b_Mod_about 28 = .ok (.invokevirtual 109, 3) := by decide +kernel
theorem d_Mod_about_31 : decode b_Mod_about 31 = .ok (.goto 4, 3) := by decide +kernel
theorem d_Mod_about_34 : decode b_Mod_about 34 = .ok (.iconst (-1), 1) := by decide +kernel
theorem d_Mod_about_35 : decode b_Mod_about 35 = .ok (.ireturn, 1) := by decide +kernel
theorem d_Mod_bitsFor_0 : decode b_Mod_bitsFor 0 = .ok (.iconst 0, 1) := by decide +kernel
theorem d_Mod_bitsFor_1 : decode b_Mod_bitsFor 1 = .ok (.istore_n 1, 1) := by decide +kernel
theorem d_Mod_bitsFor_2 : decode b_Mod_bitsFor 2 = .ok (.iconst 1, 1) := by decide +kernel
theorem d_Mod_bitsFor_3 : decode b_Mod_bitsFor 3 = .ok (.iload_n 1, 1) := by decide +kernel
theorem d_Mod_bitsFor_4 : decode b_Mod_bitsFor 4 = .ok (.iconst 1, 1) := by decide +kernel
theorem d_Mod_bitsFor_5 : decode b_Mod_bitsFor 5 = .ok (.iadd, 1) := by decide +kernel
theorem d_Mod_bitsFor_6 : decode b_Mod_bitsFor 6 = .ok (.ishl, 1) := by decide +kernel
theorem d_Mod_bitsFor_7 : decode b_Mod_bitsFor 7 = .ok (.iload_n 0, 1) := by decide +kernel
theorem d_Mod_bitsFor_8 : decode b_Mod_bitsFor 8 = .ok (.iconst 1, 1) := by decide +kernel
theorem d_Mod_bitsFor_9 : decode b_Mod_bitsFor 9 = .ok (.iadd, 1) := by decide +kernel
theorem d_Mod_bitsFor_10 : decode b_Mod_bitsFor 10 = .ok (.if_icmp .gt 9, 3) := by decide +kernel
theorem d_Mod_bitsFor_13 : decode b_Mod_bitsFor 13 = .ok (.iinc 1 1, 3) := by decide +kernel
theorem d_Mod_bitsFor_16 : decode b_Mod_bitsFor 16 = .ok (.goto (-14), 3) := by decide +kernel
theorem d_Mod_bitsFor_19 : decode b_Mod_bitsFor 19 = .ok (.iload_n 1, 1) := by decide +kernel
theorem d_Mod_bitsFor_20 : decode b_Mod_bitsFor 20 = .ok (.ireturn, 1) := by decide +kernel
theorem d_Mod_bitsOf_0 : decode b_Mod_bitsOf 0 = .ok (.iconst 0, 1) := by decide +kernel
theorem d_Mod_bitsOf_1 : decode b_Mod_bitsOf 1 = .ok (.istore_n 2, 1) := by decide +kernel
theorem d_Mod_bitsOf_2 : decode b_Mod_bitsOf 2 = .ok (.iconst 1, 1) := by decide +kernel
theorem d_Mod_bitsOf_3 : decode b_Mod_bitsOf 3 = .ok (.iload_n 2, 1) := by decide +kernel
theorem d_Mod_bitsOf_4 : decode b_Mod_bitsOf 4 = .ok (.iconst 1, 1) := by decide +kernel
theorem d_Mod_bitsOf_5 : decode b_Mod_bitsOf 5 = .ok (.iadd, 1) := by decide +kernel
theorem d_Mod_bitsOf_6 : decode b_Mod_bitsOf 6 = .ok (.ishl, 1) := by decide +kernel
theorem d_Mod_bitsOf_7 : decode b_Mod_bitsOf 7 = .ok (.iload_n 1, 1) := by decide +kernel
theorem d_Mod_bitsOf_8 : decode b_Mod_bitsOf 8 = .ok (.if_icmp .gt 9, 3) := by decide +kernel
theorem d_Mod_bitsOf_11 : decode b_Mod_bitsOf 11 = .ok (.iinc 2 1, 3) := by decide +kernel
theorem d_Mod_bitsOf_14 : decode b_Mod_bitsOf 14 = .ok (.goto (-12), 3) := by decide +kernel
theorem d_Mod_bitsOf_17 : decode b_Mod_bitsOf 17 = .ok (.aload_n 0, 1) := by decide +kernel
theorem d_Mod_bitsOf_18 : decode b_Mod_bitsOf 18 = .ok (.getfield 50, 3) := by decide +kernel
theorem d_Mod_bitsOf_21 : decode b_Mod_bitsOf 21 = .ok (.iload_n 2, 1) := by decide +kernel
theorem d_Mod_bitsOf_22 : decode b_Mod_bitsOf 22 = .ok (.isub, 1) := by decide +kernel
theorem d_Mod_bitsOf_23 : decode b_Mod_bitsOf 23 = .ok (.ireturn, 1) := by decide +kernel
theorem d_Mod_baseOf_0 : decode b_Mod_baseOf 0 = .ok (.iload_n 1, 1) := by decide +kernel
theorem d_Mod_baseOf_1 : decode b_Mod_baseOf 1 = .ok (.aload_n 0, 1) := by decide +kernel
theorem d_Mod_baseOf_2 : decode b_Mod_baseOf 2 = .ok (.iload_n 1, 1) := by decide +kernel
theorem d_Mod_baseOf_3 : decode b_Mod_baseOf 3 = .ok (.invokevirtual 112, 3) := by decide +kernel
theorem d_Mod_baseOf_6 : decode b_Mod_baseOf 6 = .ok (.ishl, 1) := by decide +kernel
theorem d_Mod_baseOf_7 : decode b_Mod_baseOf 7 = .ok (.iconst 1, 1) := by decide +kernel
theorem d_Mod_baseOf_8 : decode b_Mod_baseOf 8 = .ok (.aload_n 0, 1) := by decide +kernel
theorem d_Mod_baseOf_9 : decode b_Mod_baseOf 9 = .ok (.getfield 50, 3) := by decide +kernel
theorem d_Mod_baseOf_12 : decode b_Mod_baseOf 12 = .ok (.ishl, 1) := by decide +kernel
theorem d_Mod_baseOf_13 : decode b_Mod_baseOf 13 = .ok (.isub, 1) := by decide +kernel
theorem d_Mod_baseOf_14 : decode b_Mod_baseOf 14 = .ok (.ireturn, 1) := by decide +kernel
theorem d_Mod_numberOf_0 : decode b_Mod_numberOf 0 = .ok (.aload_n 0, 1) := by decide +kernel
theorem d_Mod_numberOf_1 : decode b_Mod_numberOf 1 = .ok (.getfield 19, 3) := by decide +kernel
theorem d_Mod_numberOf_4 : decode b_Mod_numberOf 4 = .ok (.aload_n 0, 1) := by decide +kernel
theorem d_Mod_numberOf_5 : decode b_Mod_numberOf 5 = .ok (.getfield 22, 3) := by decide +kernel
theorem d_Mod_numberOf_8 : decode b_Mod_numberOf 8 = .ok (.iload_n 1, 1) := by decide +kernel
theorem d_Mod_numberOf_9 : decode b_Mod_numberOf 9 = .ok (.iaload, 1) := by decide +kernel
theorem d_Mod_numberOf_10 : decode b_Mod_numberOf 10 = .ok (.iaload, 1) := by decide +kernel
theorem d_Mod_numberOf_11 : decode b_Mod_numberOf 11 = .ok (.invokestatic 46, 3) := by decide +kernel
theorem d_Mod_numberOf_14 : decode b_Mod_numberOf 14 = .ok (.istore_n 2, 1) := by decide +kernel
theorem d_Mod_numberOf_15 : decode b_Mod_numberOf 15 = .ok (.iconst 0, 1) := by decide +kernel
theorem d_Mod_numberOf_16 : decode b_Mod_numberOf 16 = .ok (.istore_n 3, 1) := by decide +kernel
theorem d_Mod_numberOf_17 : decode b_Mod_numberOf 17 = .ok (.iload_n 3, 1) := by decide +kernel
theorem d_Mod_numberOf_18 : decode b_Mod_numberOf 18 = .ok (.iload_n 1, 1) := by decide +kernel
theorem d_Mod_numberOf_19 : decode b_Mod_numberOf 19 = .ok (.if_icmp .ge 27, 3) := by decide +kernel
theorem d_Mod_numberOf_22 : decode b_Mod_numberOf 22 = .ok (.aload_n 0, 1) := by decide +kernel
theorem d_Mod_numberOf_23 : decode b_Mod_numberOf 23 = .ok (.getfield 22, 3) := by decide +kernel
theorem d_Mod_numberOf_26 : decode b_Mod_numberOf 26 = .ok (.iload_n 3, 1) := by decide +kernel
theorem d_Mod_numberOf_27 : decode b_Mod_numberOf 27 = .ok (.iaload, 1) := by decide +kernel
theorem d_Mod_numberOf_28 : decode b_Mod_numberOf 28 = .ok (.aload_n 0, 1) := by decide +kernel
theorem d_Mod_numberOf_29 : decode b_Mod_numberOf 29 = .ok (.getfield 22, 3) := by decide +kernel
theorem d_Mod_numberOf_32 : decode b_Mod_numberOf 32 = .ok (.iload_n 1, 1) := by decide +kernel
theorem d_Mod_numberOf_33 : decode b_Mod_numberOf 33 = .ok (.iaload, 1) := by decide +kernel
theorem d_Mod_numberOf_34 : decode b_Mod_numberOf 34 = .ok (.if_icmp .ne 6, 3) := by decide +kernel
theorem d_Mod_numberOf_37 : decode b_Mod_numberOf 37 = .ok (.iinc 2 1, 3) := by decide +kernel
theorem d_Mod_numberOf_40 : decode b_Mod_numberOf 40 = .ok (.iinc 3 1, 3) := by decide +kernel
theorem d_Mod_numberOf_43 : decode b_Mod_numberOf 43 = .ok (.goto (-26), 3) := by decide +kernel
theorem d_Mod_numberOf_46 : decode b_Mod_numberOf 46 = .ok (.iload_n 2, 1) := by decide +kernel
theorem d_Mod_numberOf_47 : decode b_Mod_numberOf 47 = .ok (.ireturn, 1) := by decide +kernel
abbrev rm_M_weight : Room := { frames := 0, cells := 0, slots := 0, locals := 0 }
set_option maxHeartbeats 4000000 in
set_option maxRecDepth 100000 in
theorem c_M_weight (l : Launch) (D : va_G) (cI cB cZ : ClassId) (x : Int) (hr : -1 ≤ x ∧ x < 2147483648) : Met l y_Mod_weight (.code y_Mod_weight b_Mod_weight 1 (some .int) :: zT) rm_M_weight (zRc D classes (TY cI cB cZ) [] [.int (iZ x)]) (zSi (fun z => z = wgt x)) 0 0 (fun _ => False) := by
  refine z_ofr (by decide) (Nat.le_of_ble_eq_true rfl) (Or.inl rfl) ?_
  intro p e s m args below meth c Q E jP jK jret ls jl
  obtain ⟨jx, jb, jrt, jml, jown, jts, jlk⟩ := E
  have jown : s.vm.findClass R_Mod = some m.cls := jown
  have jl : lv_has ls 1 [(0, .int (iZ x))] := jl
  refine lv_iload_n jx jb d_Mod_weight_0 rfl (lv_at jl 0 rfl) ?_
  refine z_if_ge (tgt := 8) jx jb d_Mod_weight_1 (by decide) ⟨by omega, by omega⟩ (fun hc1 => ?_) (fun hc1 => ?_)
  ·
    refine lv_iload_n jx jb d_Mod_weight_8 rfl (lv_at jl 0 rfl) ?_
    exact jret _ _ _ (Or.inl rfl) (by first | exact (if_pos (by omega)).symm | exact (if_neg (by omega)).symm) d_Mod_weight_9
  ·
    refine lv_iconst (v := iZ 1) jx jb d_Mod_weight_4 rfl ?_
    refine lv_goto (tgt := 9) jx jb d_Mod_weight_5 (by decide) ?_
    exact jret _ _ _ (Or.inl rfl) (by first | exact (if_pos (by omega)).symm | exact (if_neg (by omega)).symm) d_Mod_weight_9
abbrev rm_M_isOrder : Room := { frames := 0, cells := 0, slots := 0, locals := 0 }
set_option maxHeartbeats 4000000 in
set_option maxRecDepth 100000 in
theorem c_M_isOrder (l : Launch) (D : va_G) (cI cB cZ : ClassId) (x : Int) (hr : -2147483648 ≤ x ∧ x < 2147483648) : Met l y_Mod_isOrder (.code y_Mod_isOrder b_Mod_isOrder 1 (some .boolean) :: zT) rm_M_isOrder (zRc D classes (TY cI cB cZ) [] [.int (iZ x)]) (zSi (fun z => (z = 1 ∧ 5 ≤ x ∧ x ≤ 12) ∨ (z = 0 ∧ (x < 5 ∨ 12 < x)))) 0 0 (fun _ => False) := by
  refine z_ofr (by decide) (Nat.le_of_ble_eq_true rfl) (Or.inr rfl) ?_
  intro p e s m args below meth c Q E jP jK jret ls jl
  obtain ⟨jx, jb, jrt, jml, jown, jts, jlk⟩ := E
  have jown : s.vm.findClass R_Mod = some m.cls := jown
  have jl : lv_has ls 1 [(0, .int (iZ x))] := jl
  refine lv_iload_n jx jb d_Mod_isOrder_0 rfl (lv_at jl 0 rfl) ?_
  refine lv_iconst (v := iZ 5) jx jb d_Mod_isOrder_1 rfl ?_
  refine z_icmp_lt (tgt := 15) jx jb d_Mod_isOrder_2 (by decide) ⟨⟨by omega, by omega⟩, ⟨by decide, by decide⟩⟩ (fun hc2 => ?_) (fun hc2 => ?_)
  ·
    refine lv_iconst (v := iZ 0) jx jb d_Mod_isOrder_15 rfl ?_
    exact jret _ _ _ (Or.inr (Or.inl rfl)) (by omega) d_Mod_isOrder_16
  ·
    refine lv_iload_n jx jb d_Mod_isOrder_5 rfl (lv_at jl 0 rfl) ?_
    refine lv_bipush (v := iZ 12) jx jb d_Mod_isOrder_6 (by decide) ?_
    refine z_icmp_gt (tgt := 15) jx jb d_Mod_isOrder_8 (by decide) ⟨⟨by omega, by omega⟩, ⟨by decide, by decide⟩⟩ (fun hc8 => ?_) (fun hc8 => ?_)
    ·
      refine lv_iconst (v := iZ 0) jx jb d_Mod_isOrder_15 rfl ?_
      exact jret _ _ _ (Or.inr (Or.inl rfl)) (by omega) d_Mod_isOrder_16
    ·
      refine lv_iconst (v := iZ 1) jx jb d_Mod_isOrder_11 rfl ?_
      refine lv_goto (tgt := 16) jx jb d_Mod_isOrder_12 (by decide) ?_
      exact jret _ _ _ (Or.inr (Or.inr rfl)) (by omega) d_Mod_isOrder_16
abbrev rm_M_at : Room := { frames := 0, cells := 0, slots := 0, locals := 0 }
set_option maxHeartbeats 4000000 in
set_option maxRecDepth 100000 in
theorem c_M_at (l : Launch) (D : va_G) (cI cB cZ : ClassId) (r : Nat) (ri : Nat) (ro : Nat) (rc : Nat) (rp : Nat) (rs : Nat) (rd : Nat) (rk : Nat) (rh : Nat) (iL : Int) (go : Int) (oL : Int) (o : Nat) (bP : Int) (bR : Int) : Met l y_Mod_at (.code y_Mod_at b_Mod_at 1 (some .int) :: zT) rm_M_at (zRc D classes (TY cI cB cZ) [(r, .inr (4, [.ref ri, .int (iZ iL), .int (iZ go), .ref ro, .int (iZ oL), .ref rc, .int (iZ (o : Int)), .ref rp, .ref rs, .ref rd, .ref rk, .ref rh, .int (iZ bP), .int (iZ bR)]))] [.ref r]) (zSi (fun z => z = go)) 0 0 (fun _ => False) := by
  refine z_ofr (by decide) (Nat.le_of_ble_eq_true rfl) (Or.inl rfl) ?_
  intro p e s m args below meth c Q E jP jK jret ls jl
  obtain ⟨jx, jb, jrt, jml, jown, jts, jlk⟩ := E
  have jown : s.vm.findClass R_Mod = some m.cls := jown
  have jl : lv_has ls 1 [(0, .ref r)] := jl
  refine lv_aload_n jx jb d_Mod_at_0 rfl (lv_at jl 0 rfl) ?_
  refine va_get (D := D) (ci := 4) (v := .int (iZ go)) (C := R_Mod) (T := F_Mod) (N := 14) jx jb jts i_Mod jown jK.1 jP 0 rfl rfl 2 (by decide) (jts _ fl_Mod_42) (fun _ h9 => h9) rfl d_Mod_at_1 ?_
  exact jret _ _ _ (Or.inl rfl) (rfl) d_Mod_at_4
abbrev rm_M_size : Room := { frames := 0, cells := 0, slots := 0, locals := 0 }
set_option maxHeartbeats 4000000 in
set_option maxRecDepth 100000 in
theorem c_M_size (l : Launch) (D : va_G) (cI cB cZ : ClassId) (r : Nat) (ri : Nat) (ro : Nat) (rc : Nat) (rp : Nat) (rs : Nat) (rd : Nat) (rk : Nat) (rh : Nat) (iL : Int) (go : Int) (oL : Int) (o : Nat) (bP : Int) (bR : Int) : Met l y_Mod_size (.code y_Mod_size b_Mod_size 1 (some .int) :: zT) rm_M_size (zRc D classes (TY cI cB cZ) [(r, .inr (4, [.ref ri, .int (iZ iL), .int (iZ go), .ref ro, .int (iZ oL), .ref rc, .int (iZ (o : Int)), .ref rp, .ref rs, .ref rd, .ref rk, .ref rh, .int (iZ bP), .int (iZ bR)]))] [.ref r]) (zSi (fun z => z = oL)) 0 0 (fun _ => False) := by
  refine z_ofr (by decide) (Nat.le_of_ble_eq_true rfl) (Or.inl rfl) ?_
  intro p e s m args below meth c Q E jP jK jret ls jl
  obtain ⟨jx, jb, jrt, jml, jown, jts, jlk⟩ := E
  have jown : s.vm.findClass R_Mod = some m.cls := jown
  have jl : lv_has ls 1 [(0, .ref r)] := jl
  refine lv_aload_n jx jb d_Mod_size_0 rfl (lv_at jl 0 rfl) ?_
  refine va_get (D := D) (ci := 4) (v := .int (iZ oL)) (C := R_Mod) (T := F_Mod) (N := 14) jx jb jts i_Mod jown jK.1 jP 0 rfl rfl 4 (by decide) (jts _ fl_Mod_39) (fun _ h9 => h9) rfl d_Mod_size_1 ?_
  exact jret _ _ _ (Or.inl rfl) (rfl) d_Mod_size_4
abbrev rm_M_byteAt : Room := { frames := 0, cells := 0, slots := 0, locals := 0 }
set_option maxHeartbeats 4000000 in
set_option maxRecDepth 100000 in
theorem c_M_byteAt (l : Launch) (D : va_G) (cI cB cZ : ClassId) (r : Nat) (ri : Nat) (ro : Nat) (rc : Nat) (rp : Nat) (rs : Nat) (rd : Nat) (rk : Nat) (rh : Nat) (iL : Int) (go : Int) (oL : Int) (o : Nat) (bP : Int) (bR : Int) (xo : Nat → Int) (k : Int) (hoL : 0 ≤ oL ∧ oL ≤ 6000) (hk : -2147483648 ≤ k ∧ k < 2147483648) : Met l y_Mod_byteAt (.code y_Mod_byteAt b_Mod_byteAt 2 (some .int) :: zT) rm_M_byteAt (zRc D classes (TY cI cB cZ) [(r, .inr (4, [.ref ri, .int (iZ iL), .int (iZ go), .ref ro, .int (iZ oL), .ref rc, .int (iZ (o : Int)), .ref rp, .ref rs, .ref rd, .ref rk, .ref rh, .int (iZ bP), .int (iZ bR)])), (ro, .inl (cI, 6000, .inl (zA xo)))] [.ref r, .int (iZ k)]) (zSi (fun z => z = if 0 ≤ k ∧ k < oL then xo k.toNat else -1)) 0 0 (fun _ => False) := by
  refine z_ofr (by decide) (Nat.le_of_ble_eq_true rfl) (Or.inl rfl) ?_
  intro p e s m args below meth c Q E jP jK jret ls jl
  obtain ⟨jx, jb, jrt, jml, jown, jts, jlk⟩ := E
  have jown : s.vm.findClass R_Mod = some m.cls := jown
  have jl : lv_has ls 2 [(0, .ref r), (1, .int (iZ k))] := jl
  refine lv_iload_n jx jb d_Mod_byteAt_0 rfl (lv_at jl 1 rfl) ?_
  refine z_if_lt (tgt := 12) jx jb d_Mod_byteAt_1 (by decide) ⟨by omega, by omega⟩ (fun hc1 => ?_) (fun hc1 => ?_)
  ·
    refine lv_iconst (v := iZ (-1)) jx jb d_Mod_byteAt_12 rfl ?_
    refine lv_goto (tgt := 22) jx jb d_Mod_byteAt_13 (by decide) ?_
    exact jret _ _ _ (Or.inl rfl) (by first | exact (if_pos (by omega)).symm | exact (if_neg (by omega)).symm) d_Mod_byteAt_22
  ·
    refine lv_iload_n jx jb d_Mod_byteAt_4 rfl (lv_at jl 1 rfl) ?_
    refine lv_aload_n jx jb d_Mod_byteAt_5 rfl (lv_at jl 0 rfl) ?_
    refine va_get (D := D) (ci := 4) (v := .int (iZ oL)) (C := R_Mod) (T := F_Mod) (N := 14) jx jb jts i_Mod jown jK.1 jP 0 rfl rfl 4 (by decide) (jts _ fl_Mod_39) (fun _ h9 => h9) rfl d_Mod_byteAt_6 ?_
    refine z_icmp_lt (tgt := 16) jx jb d_Mod_byteAt_9 (by decide) ⟨⟨by omega, by omega⟩, ⟨by omega, by omega⟩⟩ (fun hc9 => ?_) (fun hc9 => ?_)
    ·
      refine lv_aload_n jx jb d_Mod_byteAt_16 rfl (lv_at jl 0 rfl) ?_
      refine va_get (D := D) (ci := 4) (v := .ref ro) (C := R_Mod) (T := F_Mod) (N := 14) jx jb jts i_Mod jown jK.1 jP 0 rfl rfl 3 (by decide) (jts _ fl_Mod_13) (fun _ h9 => h9) rfl d_Mod_byteAt_17 ?_
      refine lv_iload_n jx jb d_Mod_byteAt_20 rfl (lv_at jl 1 rfl) ?_
      refine z_iald jx jb jK.1 jP 1 0 rfl rfl k.toNat (by omega) d_Mod_byteAt_21 ?_
      exact jret _ _ _ (Or.inl rfl) (by first | exact (if_pos (by omega)).symm | exact (if_neg (by omega)).symm) d_Mod_byteAt_22
    ·
      refine lv_iconst (v := iZ (-1)) jx jb d_Mod_byteAt_12 rfl ?_
      refine lv_goto (tgt := 22) jx jb d_Mod_byteAt_13 (by decide) ?_
      exact jret _ _ _ (Or.inl rfl) (by first | exact (if_pos (by omega)).symm | exact (if_neg (by omega)).symm) d_Mod_byteAt_22
abbrev rm_M_place : Room := { frames := 0, cells := 0, slots := 0, locals := 0 }
set_option maxHeartbeats 4000000 in
set_option maxRecDepth 100000 in
theorem c_M_place (l : Launch) (D : va_G) (cI cB cZ : ClassId) (sz : Nat) (r : Nat) (ri : Nat) (ro : Nat) (rc : Nat) (rp : Nat) (rs : Nat) (rd : Nat) (rk : Nat) (rh : Nat) (iL : Int) (go : Int) (oL : Int) (o : Nat) (bP : Int) (bR : Int) (x : Int) (hiL : 0 ≤ iL ∧ iL ≤ 6000) (hx1 : -2147483648 ≤ x ∧ x < 2147483648) : Met l y_Mod_place (.code y_Mod_place b_Mod_place 2 (some .boolean) :: zT) rm_M_place (zPc D classes (TY cI cB cZ) [(r, .inr (4, [.ref ri, .int (iZ iL), .int (iZ go), .ref ro, .int (iZ oL), .ref rc, .int (iZ (o : Int)), .ref rp, .ref rs, .ref rd, .ref rk, .ref rh, .int (iZ bP), .int (iZ bR)]))] sz [.ref r, .int (iZ x)]) (zFi (S := Int) D classes (fun z u => (z = 1 ∧ 0 ≤ x ∧ x ≤ iL ∧ u = x) ∨ (z = 0 ∧ (x < 0 ∨ iL < x) ∧ u = go)) (fun u => [(r, .inr (4, [.ref ri, .int (iZ iL), .int (iZ u), .ref ro, .int (iZ oL), .ref rc, .int (iZ (o : Int)), .ref rp, .ref rs, .ref rd, .ref rk, .ref rh, .int (iZ bP), .int (iZ bR)]))]) (va_A [(r, .inr (4, [.ref ri, .int (iZ iL), .int (iZ go), .ref ro, .int (iZ oL), .ref rc, .int (iZ (o : Int)), .ref rp, .ref rs, .ref rd, .ref rk, .ref rh, .int (iZ bP), .int (iZ bR)]))] sz)) 0 0 (va_A [(r, .inr (4, [.ref ri, .int (iZ iL), .int (iZ go), .ref ro, .int (iZ oL), .ref rc, .int (iZ (o : Int)), .ref rp, .ref rs, .ref rd, .ref rk, .ref rh, .int (iZ bP), .int (iZ bR)]))] sz) := by
  refine z_ofi (by decide) (Nat.le_of_ble_eq_true rfl) (Or.inr rfl) ?_
  intro p e s m args below meth c A Q E jA jK jret H locs jP jD jS ls jl
  obtain ⟨jx, jb, jrt, jml, jown, jts, jlk⟩ := E
  have jown : s.vm.findClass R_Mod = some m.cls := jown
  have jl : lv_has ls 2 [(0, .ref r), (1, .int (iZ x))] := jl
  refine lv_iload_n jx jb d_Mod_place_0 rfl (lv_at jl 1 rfl) ?_
  refine z_if_lt (tgt := 12) jx jb d_Mod_place_1 (by decide) ⟨by omega, by omega⟩ (fun hc1 => ?_) (fun hc1 => ?_)
  ·
    refine lv_iconst (v := iZ 0) jx jb d_Mod_place_12 rfl ?_
    exact jret _ _ _ (go) _ _ (Or.inr (Or.inl rfl)) (by omega) (jP.sub [0] rfl) (jD.sub [0] (by decide) rfl) jS d_Mod_place_13
  ·
    refine lv_iload_n jx jb d_Mod_place_4 rfl (lv_at jl 1 rfl) ?_
    refine lv_aload_n jx jb d_Mod_place_5 rfl (lv_at jl 0 rfl) ?_
    refine va_get (D := D) (ci := 4) (v := .int (iZ iL)) (C := R_Mod) (T := F_Mod) (N := 14) jx jb jts i_Mod jown jK.1 jP 0 rfl rfl 1 (by decide) (jts _ fl_Mod_35) (fun _ h9 => h9) rfl d_Mod_place_6 ?_
    refine z_icmp_le (tgt := 14) jx jb d_Mod_place_9 (by decide) ⟨⟨by omega, by omega⟩, ⟨by omega, by omega⟩⟩ (fun hc9 => ?_) (fun hc9 => ?_)
    ·
      refine lv_aload_n jx jb d_Mod_place_14 rfl (lv_at jl 0 rfl) ?_
      refine lv_iload_n jx jb d_Mod_place_15 rfl (lv_at jl 1 rfl) ?_
      refine va_put (D := D) (ci := 4) (v := .int (iZ x)) (ty := .int) (C := R_Mod) (T := F_Mod) (N := 14) jx jb jts i_Mod t_Mod t_Mod_ok n_Mod jown jK.1 jP jD jS 0 rfl rfl 2 (by decide) (jts _ fl_Mod_42) (fun _ h9 => h9) rfl (by decide +kernel) rfl rfl (Nat.le_of_ble_eq_true rfl) d_Mod_place_16 (fun H locs jP jD jS => ?_)
      have jP : va_P D classes [(r, .inr (4, [.ref ri, .int (iZ iL), .int (iZ x), .ref ro, .int (iZ oL), .ref rc, .int (iZ (o : Int)), .ref rp, .ref rs, .ref rd, .ref rk, .ref rh, .int (iZ bP), .int (iZ bR)]))] H := jP
      have jD : va_D A [(r, .inr (4, [.ref ri, .int (iZ iL), .int (iZ x), .ref ro, .int (iZ oL), .ref rc, .int (iZ (o : Int)), .ref rp, .ref rs, .ref rd, .ref rk, .ref rh, .int (iZ bP), .int (iZ bR)]))] := jD
      refine lv_iconst (v := iZ 1) jx jb d_Mod_place_19 rfl ?_
      exact jret _ _ _ (x) _ _ (Or.inr (Or.inr rfl)) (by omega) (jP.sub [0] rfl) (jD.sub [0] (by decide) rfl) jS d_Mod_place_20
    ·
      refine lv_iconst (v := iZ 0) jx jb d_Mod_place_12 rfl ?_
      exact jret _ _ _ (go) _ _ (Or.inr (Or.inl rfl)) (by omega) (jP.sub [0] rfl) (jD.sub [0] (by decide) rfl) jS d_Mod_place_13
abbrev rm_M_count : Room := { frames := 0, cells := 0, slots := 0, locals := 0 }
set_option maxHeartbeats 4000000 in
set_option maxRecDepth 100000 in
theorem c_M_count (l : Launch) (D : va_G) (cI cB cZ : ClassId) (sz : Nat) (r : Nat) (ri : Nat) (ro : Nat) (rc : Nat) (rp : Nat) (rs : Nat) (rd : Nat) (rk : Nat) (rh : Nat) (iL : Int) (go : Int) (oL : Int) (o : Nat) (bP : Int) (bR : Int) (xc : Nat → Int) (x : Int) (y : Int) (hx1 : -2147483648 ≤ x ∧ x < 2147483648) (hy1 : -2147483648 ≤ y ∧ y < 2147483648) : Met l y_Mod_count (.code y_Mod_count b_Mod_count 3 (some .boolean) :: zT) rm_M_count (zPc D classes (TY cI cB cZ) [(r, .inr (4, [.ref ri, .int (iZ iL), .int (iZ go), .ref ro, .int (iZ oL), .ref rc, .int (iZ (o : Int)), .ref rp, .ref rs, .ref rd, .ref rk, .ref rh, .int (iZ bP), .int (iZ bR)])), (rc, .inl (cI, 256, .inl (zA xc)))] sz [.ref r, .int (iZ x), .int (iZ y)]) (zFi (S := Nat → Int) D classes (fun z u => (z = 1 ∧ (0 ≤ x ∧ x < 256 ∧ 0 ≤ y ∧ y ≤ 65535) ∧ u = zu xc x.toNat y) ∨ (z = 0 ∧ ¬ (0 ≤ x ∧ x < 256 ∧ 0 ≤ y ∧ y ≤ 65535) ∧ u = xc)) (fun u => [(r, .inr (4, [.ref ri, .int (iZ iL), .int (iZ go), .ref ro, .int (iZ oL), .ref rc, .int (iZ (o : Int)), .ref rp, .ref rs, .ref rd, .ref rk, .ref rh, .int (iZ bP), .int (iZ bR)])), (rc, .inl (cI, 256, .inl (zA u)))]) (va_A [(r, .inr (4, [.ref ri, .int (iZ iL), .int (iZ go), .ref ro, .int (iZ oL), .ref rc, .int (iZ (o : Int)), .ref rp, .ref rs, .ref rd, .ref rk, .ref rh, .int (iZ bP), .int (iZ bR)])), (rc, .inl (cI, 256, .inl (zA xc)))] sz)) 0 0 (va_A [(r, .inr (4, [.ref ri, .int (iZ iL), .int (iZ go), .ref ro, .int (iZ oL), .ref rc, .int (iZ (o : Int)), .ref rp, .ref rs, .ref rd, .ref rk, .ref rh, .int (iZ bP), .int (iZ bR)])), (rc, .inl (cI, 256, .inl (zA xc)))] sz) := by
  refine z_ofi (by decide) (Nat.le_of_ble_eq_true rfl) (Or.inr rfl) ?_
  intro p e s m args below meth c A Q E jA jK jret H locs jP jD jS ls jl
  obtain ⟨jx, jb, jrt, jml, jown, jts, jlk⟩ := E
  have jown : s.vm.findClass R_Mod = some m.cls := jown
  have jl : lv_has ls 3 [(0, .ref r), (1, .int (iZ x)), (2, .int (iZ y))] := jl
  refine lv_iload_n jx jb d_Mod_count_0 rfl (lv_at jl 1 rfl) ?_
  refine z_if_lt (tgt := 21) jx jb d_Mod_count_1 (by decide) ⟨by omega, by omega⟩ (fun hc1 => ?_) (fun hc1 => ?_)
  ·
    refine lv_iconst (v := iZ 0) jx jb d_Mod_count_21 rfl ?_
    exact jret _ _ _ (xc) _ _ (Or.inr (Or.inl rfl)) (Or.inr ⟨rfl, by omega, rfl⟩) (jP.sub [0, 1] rfl) (jD.sub [0, 1] (by decide) rfl) jS d_Mod_count_22
  ·
    refine lv_iload_n jx jb d_Mod_count_4 rfl (lv_at jl 1 rfl) ?_
    refine lv_sipush (v := iZ 256) jx jb d_Mod_count_5 (by decide) ?_
    refine z_icmp_ge (tgt := 21) jx jb d_Mod_count_8 (by decide) ⟨⟨by omega, by omega⟩, ⟨by decide, by decide⟩⟩ (fun hc8 => ?_) (fun hc8 => ?_)
    ·
      refine lv_iconst (v := iZ 0) jx jb d_Mod_count_21 rfl ?_
      exact jret _ _ _ (xc) _ _ (Or.inr (Or.inl rfl)) (Or.inr ⟨rfl, by omega, rfl⟩) (jP.sub [0, 1] rfl) (jD.sub [0, 1] (by decide) rfl) jS d_Mod_count_22
    ·
      refine lv_iload_n jx jb d_Mod_count_11 rfl (lv_at jl 2 rfl) ?_
      refine z_if_lt (tgt := 21) jx jb d_Mod_count_12 (by decide) ⟨by omega, by omega⟩ (fun hc12 => ?_) (fun hc12 => ?_)
      ·
        refine lv_iconst (v := iZ 0) jx jb d_Mod_count_21 rfl ?_
        exact jret _ _ _ (xc) _ _ (Or.inr (Or.inl rfl)) (Or.inr ⟨rfl, by omega, rfl⟩) (jP.sub [0, 1] rfl) (jD.sub [0, 1] (by decide) rfl) jS d_Mod_count_22
      ·
        refine lv_iload_n jx jb d_Mod_count_15 rfl (lv_at jl 2 rfl) ?_
        refine lv_ldc (v := iZ 65535) jx jb jown (jts _ cn_Mod_45) d_Mod_count_16 ?_
        refine z_icmp_le (tgt := 23) jx jb d_Mod_count_18 (by decide) ⟨⟨by omega, by omega⟩, ⟨by decide, by decide⟩⟩ (fun hc18 => ?_) (fun hc18 => ?_)
        ·
          refine lv_aload_n jx jb d_Mod_count_23 rfl (lv_at jl 0 rfl) ?_
          refine va_get (D := D) (ci := 4) (v := .ref rc) (C := R_Mod) (T := F_Mod) (N := 14) jx jb jts i_Mod jown jK.1 jP 0 rfl rfl 5 (by decide) (jts _ fl_Mod_16) (fun _ h9 => h9) rfl d_Mod_count_24 ?_
          refine lv_iload_n jx jb d_Mod_count_27 rfl (lv_at jl 1 rfl) ?_
          refine lv_iload_n jx jb d_Mod_count_28 rfl (lv_at jl 2 rfl) ?_
          refine z_iast jx jb jK.1 jP jD jS 1 0 rfl rfl x.toNat (by omega) d_Mod_count_29 (fun H locs jP jD jS => ?_)
          have jP : va_P D classes [(r, .inr (4, [.ref ri, .int (iZ iL), .int (iZ go), .ref ro, .int (iZ oL), .ref rc, .int (iZ (o : Int)), .ref rp, .ref rs, .ref rd, .ref rk, .ref rh, .int (iZ bP), .int (iZ bR)])), (rc, .inl (cI, 256, .inl (zA (zu xc x.toNat y))))] H := jP
          have jD : va_D A [(r, .inr (4, [.ref ri, .int (iZ iL), .int (iZ go), .ref ro, .int (iZ oL), .ref rc, .int (iZ (o : Int)), .ref rp, .ref rs, .ref rd, .ref rk, .ref rh, .int (iZ bP), .int (iZ bR)])), (rc, .inl (cI, 256, .inl (zA (zu xc x.toNat y))))] := jD
          refine lv_iconst (v := iZ 1) jx jb d_Mod_count_30 rfl ?_
          exact jret _ _ _ ((zu xc x.toNat y)) _ _ (Or.inr (Or.inr rfl)) (Or.inl ⟨rfl, by omega, rfl⟩) (jP.sub [0, 1] rfl) (jD.sub [0, 1] (by decide) rfl) jS d_Mod_count_31
        ·
          refine lv_iconst (v := iZ 0) jx jb d_Mod_count_21 rfl ?_
          exact jret _ _ _ (xc) _ _ (Or.inr (Or.inl rfl)) (Or.inr ⟨rfl, by omega, rfl⟩) (jP.sub [0, 1] rfl) (jD.sub [0, 1] (by decide) rfl) jS d_Mod_count_22
abbrev rm_M_points : Room := { frames := 0, cells := 0, slots := 0, locals := 0 }
set_option maxHeartbeats 4000000 in
set_option maxRecDepth 100000 in
theorem c_M_points (l : Launch) (D : va_G) (cI cB cZ : ClassId) (r : Nat) (ri : Nat) (ro : Nat) (rc : Nat) (rp : Nat) (rs : Nat) (rd : Nat) (rk : Nat) (rh : Nat) (iL : Int) (go : Int) (oL : Int) (o : Nat) (bP : Int) (bR : Int) (xp : Nat → Int) (x : Int) (ho : o ≤ 12) (hx1 : -2147483648 ≤ x ∧ x < 2147483648) : Met l y_Mod_points (.code y_Mod_points b_Mod_points 2 (some .int) :: zT) rm_M_points (zRc D classes (TY cI cB cZ) [(r, .inr (4, [.ref ri, .int (iZ iL), .int (iZ go), .ref ro, .int (iZ oL), .ref rc, .int (iZ (o : Int)), .ref rp, .ref rs, .ref rd, .ref rk, .ref rh, .int (iZ bP), .int (iZ bR)])), (rp, .inl (cI, 256, .inl (zA xp)))] [.ref r, .int (iZ x)]) (zSi (fun z => z = if 0 < o ∧ 0 ≤ x ∧ x < 256 then xp x.toNat else -2)) 0 0 (fun _ => False) := by
  refine z_ofr (by decide) (Nat.le_of_ble_eq_true rfl) (Or.inl rfl) ?_
  intro p e s m args below meth c Q E jP jK jret ls jl
  obtain ⟨jx, jb, jrt, jml, jown, jts, jlk⟩ := E
  have jown : s.vm.findClass R_Mod = some m.cls := jown
  have jl : lv_has ls 2 [(0, .ref r), (1, .int (iZ x))] := jl
  refine lv_aload_n jx jb d_Mod_points_0 rfl (lv_at jl 0 rfl) ?_
  refine va_get (D := D) (ci := 4) (v := .int (iZ (o : Int))) (C := R_Mod) (T := F_Mod) (N := 14) jx jb jts i_Mod jown jK.1 jP 0 rfl rfl 6 (by decide) (jts _ fl_Mod_50) (fun _ h9 => h9) rfl d_Mod_points_1 ?_
  refine z_if_eq (tgt := 18) jx jb d_Mod_points_4 (by decide) ⟨by omega, by omega⟩ (fun hc4 => ?_) (fun hc4 => ?_)
  ·
    refine lv_bipush (v := iZ (-2)) jx jb d_Mod_points_18 (by decide) ?_
    refine lv_goto (tgt := 29) jx jb d_Mod_points_20 (by decide) ?_
    exact jret _ _ _ (Or.inl rfl) (by first | exact (if_pos (by omega)).symm | exact (if_neg (by omega)).symm) d_Mod_points_29
  ·
    refine lv_iload_n jx jb d_Mod_points_7 rfl (lv_at jl 1 rfl) ?_
    refine z_if_lt (tgt := 18) jx jb d_Mod_points_8 (by decide) ⟨by omega, by omega⟩ (fun hc8 => ?_) (fun hc8 => ?_)
    ·
      refine lv_bipush (v := iZ (-2)) jx jb d_Mod_points_18 (by decide) ?_
      refine lv_goto (tgt := 29) jx jb d_Mod_points_20 (by decide) ?_
      exact jret _ _ _ (Or.inl rfl) (by first | exact (if_pos (by omega)).symm | exact (if_neg (by omega)).symm) d_Mod_points_29
    ·
      refine lv_iload_n jx jb d_Mod_points_11 rfl (lv_at jl 1 rfl) ?_
      refine lv_sipush (v := iZ 256) jx jb d_Mod_points_12 (by decide) ?_
      refine z_icmp_lt (tgt := 23) jx jb d_Mod_points_15 (by decide) ⟨⟨by omega, by omega⟩, ⟨by decide, by decide⟩⟩ (fun hc15 => ?_) (fun hc15 => ?_)
      ·
        refine lv_aload_n jx jb d_Mod_points_23 rfl (lv_at jl 0 rfl) ?_
        refine va_get (D := D) (ci := 4) (v := .ref rp) (C := R_Mod) (T := F_Mod) (N := 14) jx jb jts i_Mod jown jK.1 jP 0 rfl rfl 7 (by decide) (jts _ fl_Mod_19) (fun _ h9 => h9) rfl d_Mod_points_24 ?_
        refine lv_iload_n jx jb d_Mod_points_27 rfl (lv_at jl 1 rfl) ?_
        refine z_iald jx jb jK.1 jP 1 0 rfl rfl x.toNat (by omega) d_Mod_points_28 ?_
        exact jret _ _ _ (Or.inl rfl) (by first | exact (if_pos (by omega)).symm | exact (if_neg (by omega)).symm) d_Mod_points_29
      ·
        refine lv_bipush (v := iZ (-2)) jx jb d_Mod_points_18 (by decide) ?_
        refine lv_goto (tgt := 29) jx jb d_Mod_points_20 (by decide) ?_
        exact jret _ _ _ (Or.inl rfl) (by first | exact (if_pos (by omega)).symm | exact (if_neg (by omega)).symm) d_Mod_points_29
abbrev rm_M_last : Room := { frames := 0, cells := 0, slots := 0, locals := 0 }
set_option maxHeartbeats 4000000 in
set_option maxRecDepth 100000 in
theorem c_M_last (l : Launch) (D : va_G) (cI cB cZ : ClassId) (r : Nat) (ri : Nat) (ro : Nat) (rc : Nat) (rp : Nat) (rs : Nat) (rd : Nat) (rk : Nat) (rh : Nat) (iL : Int) (go : Int) (oL : Int) (o : Nat) (bP : Int) (bR : Int) (xp : Nat → Int) (hpr : ∀ k, k < 256 → -1 ≤ xp k ∧ xp k ≤ 65536) : Met l y_Mod_last (.code y_Mod_last b_Mod_last 3 (some .int) :: zT) rm_M_last (zRc D classes (TY cI cB cZ) [(r, .inr (4, [.ref ri, .int (iZ iL), .int (iZ go), .ref ro, .int (iZ oL), .ref rc, .int (iZ (o : Int)), .ref rp, .ref rs, .ref rd, .ref rk, .ref rh, .int (iZ bP), .int (iZ bR)])), (rp, .inl (cI, 256, .inl (zA xp)))] [.ref r]) (zSi (fun z => (z = -1 ∧ ∀ k, k < 256 → xp k = 0) ∨ ∃ n : Nat, z = (n : Int) ∧ n ≤ 255 ∧ xp n ≠ 0 ∧ ∀ k, n < k → k ≤ 255 → xp k = 0)) 0 0 (fun _ => False) := by
  refine z_ofr (by decide) (Nat.le_of_ble_eq_true rfl) (Or.inl rfl) ?_
  intro p e s m args below meth c Q E jP jK jret ls jl
  obtain ⟨jx, jb, jrt, jml, jown, jts, jlk⟩ := E
  have jown : s.vm.findClass R_Mod = some m.cls := jown
  have jl : lv_has ls 3 [(0, .ref r)] := jl
  refine lv_iconst (v := iZ (-1)) jx jb d_Mod_last_0 rfl ?_
  refine lv_istore_n (lv' := [(1, .int (iZ (-1))), (0, .ref r)]) jx jb d_Mod_last_1 rfl jl (by decide) rfl (fun ls jl => ?_)
  refine lv_iconst (v := iZ 0) jx jb d_Mod_last_2 rfl ?_
  refine lv_istore_n (lv' := [(2, .int (iZ 0)), (1, .int (iZ (-1))), (0, .ref r)]) jx jb d_Mod_last_3 rfl jl (by decide) rfl (fun ls jl => ?_)
  have hloop4 : ∀ (nF : Nat) (i : Nat) (v : Int), 256 - i < nF → (i ≤ 256) → (lastI xp i v) → ∀ ls : Array Slot, lv_has ls 3 [(0, .ref r), (1, .int (iZ v)), (2, .int (iZ (i : Int)))] → W p l e rm_M_last s m args below meth c s.heap [] 0 0 Q (F0 m 4 ls []) := by
    intro nF
    induction nF with
    | zero => intro i v hm; exact absurd hm (Nat.not_lt_zero _)
    | succ nF ih4 =>
      intro i v hm hi hv ls jl
      refine lv_iload_n jx jb d_Mod_last_4 rfl (lv_at jl 2 rfl) ?_
      refine lv_sipush (v := iZ 256) jx jb d_Mod_last_5 (by decide) ?_
      refine z_icmp_ge (tgt := 28) jx jb d_Mod_last_8 (by decide) ⟨⟨by omega, by omega⟩, ⟨by decide, by decide⟩⟩ (fun hc8 => ?_) (fun hc8 => ?_)
      ·
        refine lv_iload_n jx jb d_Mod_last_28 rfl (lv_at jl 1 rfl) ?_
        exact jret _ _ _ (Or.inl rfl) (last_e hv (by omega)) d_Mod_last_29
      ·
        refine lv_aload_n jx jb d_Mod_last_11 rfl (lv_at jl 0 rfl) ?_
        refine va_get (D := D) (ci := 4) (v := .ref rp) (C := R_Mod) (T := F_Mod) (N := 14) jx jb jts i_Mod jown jK.1 jP 0 rfl rfl 7 (by decide) (jts _ fl_Mod_19) (fun _ h9 => h9) rfl d_Mod_last_12 ?_
        refine lv_iload_n jx jb d_Mod_last_15 rfl (lv_at jl 2 rfl) ?_
        refine z_iald jx jb jK.1 jP 1 0 rfl rfl i (by omega) d_Mod_last_16 ?_
        have hpi := hpr i (by omega)
        refine z_if_eq (tgt := 22) jx jb d_Mod_last_17 (by decide) ⟨by omega, by omega⟩ (fun hc17 => ?_) (fun hc17 => ?_)
        ·
          refine lv_iinc (v := iZ ((i : Int) + 1)) (lv' := [(2, .int (iZ ((i : Int) + 1))), (0, .ref r), (1, .int (iZ v))]) jx jb d_Mod_last_22 jl (k := 2) rfl (iZ_add _ _) (by decide) rfl (fun ls jl => ?_)
          refine lv_goto (tgt := 4) jx jb d_Mod_last_25 (by decide) ?_
          exact ih4 (i + 1) v (by omega) (by first | assumption | omega) (by first | exact last_n hv hc17 | exact last_z hv hc17) _ (lv_sub jl [1, 2, 0] rfl)
        ·
          refine lv_iload_n jx jb d_Mod_last_20 rfl (lv_at jl 2 rfl) ?_
          refine lv_istore_n (lv' := [(1, .int (iZ (i : Int))), (0, .ref r), (2, .int (iZ (i : Int)))]) jx jb d_Mod_last_21 rfl jl (by decide) rfl (fun ls jl => ?_)
          refine lv_iinc (v := iZ ((i : Int) + 1)) (lv' := [(2, .int (iZ ((i : Int) + 1))), (1, .int (iZ (i : Int))), (0, .ref r)]) jx jb d_Mod_last_22 jl (k := 2) rfl (iZ_add _ _) (by decide) rfl (fun ls jl => ?_)
          refine lv_goto (tgt := 4) jx jb d_Mod_last_25 (by decide) ?_
          exact ih4 (i + 1) (i : Int) (by omega) (by first | assumption | omega) (by first | exact last_n hv hc17 | exact last_z hv hc17) _ (lv_sub jl [2, 1, 0] rfl)
  exact hloop4 ((256 - 0) + 1) 0 (-1) (Nat.lt_succ_self _) (by first | assumption | omega) (Or.inl ⟨rfl, fun k h => absurd h (by omega)⟩) _ (lv_sub jl [2, 1, 0] rfl)
abbrev rm_M_about : Room := { frames := 1, cells := 0, slots := 0, locals := 22 }
set_option maxHeartbeats 4000000 in
set_option maxRecDepth 100000 in
theorem c_M_about (l : Launch) (D : va_G) (cI cB cZ : ClassId) (r : Nat) (ri : Nat) (ro : Nat) (rc : Nat) (rp : Nat) (rs : Nat) (rd : Nat) (rk : Nat) (rh : Nat) (iL : Int) (go : Int) (oL : Int) (o : Nat) (bP : Int) (bR : Int) (xp : Nat → Int) (x : Int) (ho : o ≤ 12) (hpr : ∀ k, k < 256 → -1 ≤ xp k ∧ xp k ≤ 65536) (hx1 : -2147483648 ≤ x ∧ x < 2147483648) : Met l y_Mod_about (.code y_Mod_about b_Mod_about 2 (some .int) :: zT) rm_M_about (zRc D classes (TY cI cB cZ) [(r, .inr (4, [.ref ri, .int (iZ iL), .int (iZ go), .ref ro, .int (iZ oL), .ref rc, .int (iZ (o : Int)), .ref rp, .ref rs, .ref rd, .ref rk, .ref rh, .int (iZ bP), .int (iZ bR)])), (rp, .inl (cI, 256, .inl (zA xp)))] [.ref r, .int (iZ x)]) (zSi (fun z => (o = 0 ∧ z = -1) ∨ (0 < o ∧ x = 0 ∧ z = (o : Int)) ∨ (0 < o ∧ x = 1 ∧ ((z = -1 ∧ ∀ k, k < 256 → xp k = 0) ∨ ∃ n : Nat, z = (n : Int) ∧ n ≤ 255 ∧ xp n ≠ 0 ∧ ∀ k, n < k → k ≤ 255 → xp k = 0)) ∨ (0 < o ∧ x ≠ 0 ∧ x ≠ 1 ∧ z = -1))) 0 0 (fun _ => False) := by
  refine z_ofr (by decide) (Nat.le_of_ble_eq_true rfl) (Or.inl rfl) ?_
  intro p e s m args below meth c Q E jP jK jret ls jl
  obtain ⟨jx, jb, jrt, jml, jown, jts, jlk⟩ := E
  have jown : s.vm.findClass R_Mod = some m.cls := jown
  have jl : lv_has ls 2 [(0, .ref r), (1, .int (iZ x))] := jl
  refine lv_aload_n jx jb d_Mod_about_0 rfl (lv_at jl 0 rfl) ?_
  refine va_get (D := D) (ci := 4) (v := .int (iZ (o : Int))) (C := R_Mod) (T := F_Mod) (N := 14) jx jb jts i_Mod jown jK.1 jP 0 rfl rfl 6 (by decide) (jts _ fl_Mod_50) (fun _ h9 => h9) rfl d_Mod_about_1 ?_
  refine z_if_ne (tgt := 11) jx jb d_Mod_about_4 (by decide) ⟨by omega, by omega⟩ (fun hc4 => ?_) (fun hc4 => ?_)
  ·
    have ho1 : 0 < o := by omega
    refine lv_iload_n jx jb d_Mod_about_11 rfl (lv_at jl 1 rfl) ?_
    refine z_if_ne (tgt := 22) jx jb d_Mod_about_12 (by decide) ⟨by omega, by omega⟩ (fun hc12 => ?_) (fun hc12 => ?_)
    ·
      refine lv_iload_n jx jb d_Mod_about_22 rfl (lv_at jl 1 rfl) ?_
      refine lv_iconst (v := iZ 1) jx jb d_Mod_about_23 rfl ?_
      refine z_icmp_ne (tgt := 34) jx jb d_Mod_about_24 (by decide) ⟨⟨by omega, by omega⟩, ⟨by decide, by decide⟩⟩ (fun hc24 => ?_) (fun hc24 => ?_)
      ·
        refine lv_iconst (v := iZ (-1)) jx jb d_Mod_about_34 rfl ?_
        exact jret _ _ _ (Or.inl rfl) (by first | exact Or.inr (Or.inr (Or.inl ⟨ho1, hc24, hq28⟩)) | exact Or.inl ⟨by omega, rfl⟩ | exact Or.inr (Or.inl ⟨by omega, by omega, rfl⟩) | exact Or.inr (Or.inr (Or.inr ⟨by omega, by omega, by omega, rfl⟩))) d_Mod_about_35
      ·
        refine lv_aload_n jx jb d_Mod_about_27 rfl (lv_at jl 0 rfl) ?_
        refine z_backr (va_runV (As := []) (rest := []) ⟨jx, jb, jml, jown, jts⟩ (c_M_last l D cI cB cZ r ri ro rc rp rs rd rk rh iL go oL o bP bR xp (by first | assumption | omega)) (zc_V 0 jts cd_Mod_last lk_Mod_109 im_Mod_last se_Mod_last in_Mod hd_Mod_last ⟨Nat.le_of_ble_eq_true rfl, Nat.le_of_ble_eq_true rfl⟩ rfl rfl) (z_preVR jK jP [0, 1] rfl rfl rfl) rfl rfl jl.1 rfl (lv_room (Nat.le_of_ble_eq_true rfl)) d_Mod_about_28 ⟨Nat.le_of_ble_eq_true rfl, Nat.le_of_ble_eq_true rfl⟩) (fun z28 hz28 => ?_)
        have hq28 := hz28
        refine lv_goto (tgt := 35) jx jb d_Mod_about_31 (by decide) ?_
        exact jret _ _ _ (Or.inl rfl) (by first | exact Or.inr (Or.inr (Or.inl ⟨ho1, hc24, hq28⟩)) | exact Or.inl ⟨by omega, rfl⟩ | exact Or.inr (Or.inl ⟨by omega, by omega, rfl⟩) | exact Or.inr (Or.inr (Or.inr ⟨by omega, by omega, by omega, rfl⟩))) d_Mod_about_35
    ·
      refine lv_aload_n jx jb d_Mod_about_15 rfl (lv_at jl 0 rfl) ?_
      refine va_get (D := D) (ci := 4) (v := .int (iZ (o : Int))) (C := R_Mod) (T := F_Mod) (N := 14) jx jb jts i_Mod jown jK.1 jP 0 rfl rfl 6 (by decide) (jts _ fl_Mod_50) (fun _ h9 => h9) rfl d_Mod_about_16 ?_
      refine lv_goto (tgt := 35) jx jb d_Mod_about_19 (by decide) ?_
      exact jret _ _ _ (Or.inl rfl) (by first | exact Or.inr (Or.inr (Or.inl ⟨ho1, hc24, hq28⟩)) | exact Or.inl ⟨by omega, rfl⟩ | exact Or.inr (Or.inl ⟨by omega, by omega, rfl⟩) | exact Or.inr (Or.inr (Or.inr ⟨by omega, by omega, by omega, rfl⟩))) d_Mod_about_35
  ·
    refine lv_iconst (v := iZ (-1)) jx jb d_Mod_about_7 rfl ?_
    refine lv_goto (tgt := 35) jx jb d_Mod_about_8 (by decide) ?_
    exact jret _ _ _ (Or.inl rfl) (by first | exact Or.inr (Or.inr (Or.inl ⟨ho1, hc24, hq28⟩)) | exact Or.inl ⟨by omega, rfl⟩ | exact Or.inr (Or.inl ⟨by omega, by omega, rfl⟩) | exact Or.inr (Or.inr (Or.inr ⟨by omega, by omega, by omega, rfl⟩))) d_Mod_about_35
abbrev rm_M_bitsFor : Room := { frames := 0, cells := 0, slots := 0, locals := 0 }
set_option maxHeartbeats 4000000 in
set_option maxRecDepth 100000 in
theorem c_M_bitsFor (l : Launch) (D : va_G) (cI cB cZ : ClassId) (R1 : Int) (hR : 0 ≤ R1 ∧ R1 ≤ 100000) : Met l y_Mod_bitsFor (.code y_Mod_bitsFor b_Mod_bitsFor 2 (some .int) :: zT) rm_M_bitsFor (zRc D classes (TY cI cB cZ) [] [.int (iZ R1)]) (zSi (fun z => z = (numK R1 : Int))) 0 0 (fun _ => False) := by
  refine z_ofr (by decide) (Nat.le_of_ble_eq_true rfl) (Or.inl rfl) ?_
  intro p e s m args below meth c Q E jP jK jret ls jl
  obtain ⟨jx, jb, jrt, jml, jown, jts, jlk⟩ := E
  have jown : s.vm.findClass R_Mod = some m.cls := jown
  have jl : lv_has ls 2 [(0, .int (iZ R1))] := jl
  refine lv_iconst (v := iZ 0) jx jb d_Mod_bitsFor_0 rfl ?_
  refine lv_istore_n (lv' := [(1, .int (iZ 0)), (0, .int (iZ R1))]) jx jb d_Mod_bitsFor_1 rfl jl (by decide) rfl (fun ls jl => ?_)
  have hloop2 : ∀ (nF : Nat) (k : Nat), 17 - k < nF → ((2 : Int) ^ k ≤ R1 + 1) → ∀ ls : Array Slot, lv_has ls 2 [(0, .int (iZ R1)), (1, .int (iZ (k : Int)))] → W p l e rm_M_bitsFor s m args below meth c s.heap [] 0 0 Q (F0 m 2 ls []) := by
    intro nF
    induction nF with
    | zero => intro k hm; exact absurd hm (Nat.not_lt_zero _)
    | succ nF ih2 =>
      intro k hm h1 ls jl
      have hk17 : k < 17 := p2_lt h1 (by omega)
      have hps := p2_s k
      have hp0 := p2_pos k
      refine lv_iconst (v := iZ 1) jx jb d_Mod_bitsFor_2 rfl ?_
      refine lv_iload_n jx jb d_Mod_bitsFor_3 rfl (lv_at jl 1 rfl) ?_
      refine lv_iconst (v := iZ 1) jx jb d_Mod_bitsFor_4 rfl ?_
      refine z_iadd jx jb d_Mod_bitsFor_5 ?_
      refine z_ishl jx jb d_Mod_bitsFor_6 (k + 1) (2 ^ (k + 1)) (rfl) (by omega) ?_
      refine z_top (2 ^ (k + 1)) (Int.one_mul _) ?_
      refine lv_iload_n jx jb d_Mod_bitsFor_7 rfl (lv_at jl 0 rfl) ?_
      refine lv_iconst (v := iZ 1) jx jb d_Mod_bitsFor_8 rfl ?_
      refine z_iadd jx jb d_Mod_bitsFor_9 ?_
      refine z_icmp_gt (tgt := 19) jx jb d_Mod_bitsFor_10 (by decide) ⟨⟨by omega, by omega⟩, ⟨by omega, by omega⟩⟩ (fun hc10 => ?_) (fun hc10 => ?_)
      ·
        refine lv_iload_n jx jb d_Mod_bitsFor_19 rfl (lv_at jl 1 rfl) ?_
        exact jret _ _ _ (Or.inl rfl) (by rw [show numK R1 = k from zlog_is h1 (by omega)]) d_Mod_bitsFor_20
      ·
        refine lv_iinc (v := iZ ((k : Int) + 1)) (lv' := [(1, .int (iZ ((k : Int) + 1))), (0, .int (iZ R1))]) jx jb d_Mod_bitsFor_13 jl (k := 1) rfl (iZ_add _ _) (by decide) rfl (fun ls jl => ?_)
        refine lv_goto (tgt := 2) jx jb d_Mod_bitsFor_16 (by decide) ?_
        exact ih2 (k + 1) (by omega) (by first | assumption | omega) _ (lv_sub jl [1, 0] rfl)
  exact hloop2 ((17 - 0) + 1) 0 (Nat.lt_succ_self _) (by rw [Int.pow_zero]; omega) _ (lv_sub jl [1, 0] rfl)
abbrev rm_M_bitsOf : Room := { frames := 0, cells := 0, slots := 0, locals := 0 }
set_option maxHeartbeats 4000000 in
set_option maxRecDepth 100000 in
theorem c_M_bitsOf (l : Launch) (D : va_G) (cI cB cZ : ClassId) (r : Nat) (ri : Nat) (ro : Nat) (rc : Nat) (rp : Nat) (rs : Nat) (rd : Nat) (rk : Nat) (rh : Nat) (iL : Int) (go : Int) (oL : Int) (o : Nat) (bP : Int) (bR : Int) (x : Int) (ho : o ≤ 12) (hx1 : 1 ≤ x ∧ x ≤ 100000) : Met l y_Mod_bitsOf (.code y_Mod_bitsOf b_Mod_bitsOf 3 (some .int) :: zT) rm_M_bitsOf (zRc D classes (TY cI cB cZ) [(r, .inr (4, [.ref ri, .int (iZ iL), .int (iZ go), .ref ro, .int (iZ oL), .ref rc, .int (iZ (o : Int)), .ref rp, .ref rs, .ref rd, .ref rk, .ref rh, .int (iZ bP), .int (iZ bR)]))] [.ref r, .int (iZ x)]) (zSi (fun z => z = (o : Int) - (zlog x : Int))) 0 0 (fun _ => False) := by
  refine z_ofr (by decide) (Nat.le_of_ble_eq_true rfl) (Or.inl rfl) ?_
  intro p e s m args below meth c Q E jP jK jret ls jl
  obtain ⟨jx, jb, jrt, jml, jown, jts, jlk⟩ := E
  have jown : s.vm.findClass R_Mod = some m.cls := jown
  have jl : lv_has ls 3 [(0, .ref r), (1, .int (iZ x))] := jl
  refine lv_iconst (v := iZ 0) jx jb d_Mod_bitsOf_0 rfl ?_
  refine lv_istore_n (lv' := [(2, .int (iZ 0)), (0, .ref r), (1, .int (iZ x))]) jx jb d_Mod_bitsOf_1 rfl jl (by decide) rfl (fun ls jl => ?_)
  have hloop2 : ∀ (nF : Nat) (k : Nat), 17 - k < nF → ((2 : Int) ^ k ≤ x) → ∀ ls : Array Slot, lv_has ls 3 [(0, .ref r), (1, .int (iZ x)), (2, .int (iZ (k : Int)))] → W p l e rm_M_bitsOf s m args below meth c s.heap [] 0 0 Q (F0 m 2 ls []) := by
    intro nF
    induction nF with
    | zero => intro k hm; exact absurd hm (Nat.not_lt_zero _)
    | succ nF ih2 =>
      intro k hm h1 ls jl
      have hk17 : k < 17 := p2_lt h1 (by omega)
      have hps := p2_s k
      have hp0 := p2_pos k
      refine lv_iconst (v := iZ 1) jx jb d_Mod_bitsOf_2 rfl ?_
      refine lv_iload_n jx jb d_Mod_bitsOf_3 rfl (lv_at jl 2 rfl) ?_
      refine lv_iconst (v := iZ 1) jx jb d_Mod_bitsOf_4 rfl ?_
      refine z_iadd jx jb d_Mod_bitsOf_5 ?_
      refine z_ishl jx jb d_Mod_bitsOf_6 (k + 1) (2 ^ (k + 1)) (rfl) (by omega) ?_
      refine z_top (2 ^ (k + 1)) (Int.one_mul _) ?_
      refine lv_iload_n jx jb d_Mod_bitsOf_7 rfl (lv_at jl 1 rfl) ?_
      refine z_icmp_gt (tgt := 17) jx jb d_Mod_bitsOf_8 (by decide) ⟨⟨by omega, by omega⟩, ⟨by omega, by omega⟩⟩ (fun hc8 => ?_) (fun hc8 => ?_)
      ·
        refine lv_aload_n jx jb d_Mod_bitsOf_17 rfl (lv_at jl 0 rfl) ?_
        refine va_get (D := D) (ci := 4) (v := .int (iZ (o : Int))) (C := R_Mod) (T := F_Mod) (N := 14) jx jb jts i_Mod jown jK.1 jP 0 rfl rfl 6 (by decide) (jts _ fl_Mod_50) (fun _ h9 => h9) rfl d_Mod_bitsOf_18 ?_
        refine lv_iload_n jx jb d_Mod_bitsOf_21 rfl (lv_at jl 2 rfl) ?_
        refine z_isub jx jb d_Mod_bitsOf_22 ?_
        exact jret _ _ _ (Or.inl rfl) (by rw [zlog_is h1 (by omega)]) d_Mod_bitsOf_23
      ·
        refine lv_iinc (v := iZ ((k : Int) + 1)) (lv' := [(2, .int (iZ ((k : Int) + 1))), (0, .ref r), (1, .int (iZ x))]) jx jb d_Mod_bitsOf_11 jl (k := 2) rfl (iZ_add _ _) (by decide) rfl (fun ls jl => ?_)
        refine lv_goto (tgt := 2) jx jb d_Mod_bitsOf_14 (by decide) ?_
        exact ih2 (k + 1) (by omega) (by first | assumption | omega) _ (lv_sub jl [1, 2, 0] rfl)
  exact hloop2 ((17 - 0) + 1) 0 (Nat.lt_succ_self _) (by rw [Int.pow_zero]; omega) _ (lv_sub jl [1, 2, 0] rfl)
abbrev rm_M_baseOf : Room := { frames := 1, cells := 0, slots := 0, locals := 22 }
set_option maxHeartbeats 4000000 in
set_option maxRecDepth 100000 in
theorem c_M_baseOf (l : Launch) (D : va_G) (cI cB cZ : ClassId) (r : Nat) (ri : Nat) (ro : Nat) (rc : Nat) (rp : Nat) (rs : Nat) (rd : Nat) (rk : Nat) (rh : Nat) (iL : Int) (go : Int) (oL : Int) (o : Nat) (bP : Int) (bR : Int) (x : Int) (ho : o ≤ 12) (hx1 : 1 ≤ x ∧ x < 2 ^ (o + 1)) : Met l y_Mod_baseOf (.code y_Mod_baseOf b_Mod_baseOf 2 (some .int) :: zT) rm_M_baseOf (zRc D classes (TY cI cB cZ) [(r, .inr (4, [.ref ri, .int (iZ iL), .int (iZ go), .ref ro, .int (iZ oL), .ref rc, .int (iZ (o : Int)), .ref rp, .ref rs, .ref rd, .ref rk, .ref rh, .int (iZ bP), .int (iZ bR)]))] [.ref r, .int (iZ x)]) (zSi (fun z => z = x * 2 ^ (o - zlog x) - 2 ^ o)) 0 0 (fun _ => False) := by
  refine z_ofr (by decide) (Nat.le_of_ble_eq_true rfl) (Or.inl rfl) ?_
  intro p e s m args below meth c Q E jP jK jret ls jl
  obtain ⟨jx, jb, jrt, jml, jown, jts, jlk⟩ := E
  have jown : s.vm.findClass R_Mod = some m.cls := jown
  have hzl := zlog_le hx1.1 hx1.2
  have hp13 := p2_le (show o + 1 ≤ 13 by omega)
  have jl : lv_has ls 2 [(0, .ref r), (1, .int (iZ x))] := jl
  refine lv_iload_n jx jb d_Mod_baseOf_0 rfl (lv_at jl 1 rfl) ?_
  refine lv_aload_n jx jb d_Mod_baseOf_1 rfl (lv_at jl 0 rfl) ?_
  refine lv_iload_n jx jb d_Mod_baseOf_2 rfl (lv_at jl 1 rfl) ?_
  refine z_backe (va_runV (As := [.int (iZ x)]) (rest := [.int (iZ x)]) ⟨jx, jb, jml, jown, jts⟩ (c_M_bitsOf l D cI cB cZ r ri ro rc rp rs rd rk rh iL go oL o bP bR x (by first | assumption | omega) (by first | assumption | omega)) (zc_V 1 jts cd_Mod_bitsOf lk_Mod_112 im_Mod_bitsOf se_Mod_bitsOf in_Mod hd_Mod_bitsOf ⟨Nat.le_of_ble_eq_true rfl, Nat.le_of_ble_eq_true rfl⟩ rfl rfl) (z_preVR jK jP [0] rfl rfl rfl) rfl rfl jl.1 rfl (lv_room (Nat.le_of_ble_eq_true rfl)) d_Mod_baseOf_3 ⟨Nat.le_of_ble_eq_true rfl, Nat.le_of_ble_eq_true rfl⟩) ?_
  refine z_top ((o - zlog x : Nat) : Int) (by omega) ?_
  refine z_ishl jx jb d_Mod_baseOf_6 (o - zlog x : Nat) (2 ^ (o - zlog x : Nat)) (rfl) (by omega) ?_
  refine lv_iconst (v := iZ 1) jx jb d_Mod_baseOf_7 rfl ?_
  refine lv_aload_n jx jb d_Mod_baseOf_8 rfl (lv_at jl 0 rfl) ?_
  refine va_get (D := D) (ci := 4) (v := .int (iZ (o : Int))) (C := R_Mod) (T := F_Mod) (N := 14) jx jb jts i_Mod jown jK.1 jP 0 rfl rfl 6 (by decide) (jts _ fl_Mod_50) (fun _ h9 => h9) rfl d_Mod_baseOf_9 ?_
  refine z_ishl jx jb d_Mod_baseOf_12 o (2 ^ o) (rfl) (by omega) ?_
  refine z_top (2 ^ o) (Int.one_mul _) ?_
  refine z_isub jx jb d_Mod_baseOf_13 ?_
  exact jret _ _ _ (Or.inl rfl) (rfl) d_Mod_baseOf_14
abbrev rm_M_numberOf : Room := { frames := 1, cells := 0, slots := 0, locals := 20 }
set_option maxHeartbeats 4000000 in
set_option maxRecDepth 100000 in
theorem c_M_numberOf (l : Launch) (D : va_G) (cI cB cZ : ClassId) (r : Nat) (ri : Nat) (ro : Nat) (rc : Nat) (rp : Nat) (rs : Nat) (rd : Nat) (rk : Nat) (rh : Nat) (iL : Int) (go : Int) (oL : Int) (o : Nat) (bP : Int) (bR : Int) (xp : Nat → Int) (xs : Nat → Int) (k : Nat) (hpr : ∀ k, k < 256 → -1 ≤ xp k ∧ xp k ≤ 65536) (hxs : ∀ k, k < 4096 → 0 ≤ xs k ∧ xs k < 256) (hk : k < 4096) : Met l y_Mod_numberOf (.code y_Mod_numberOf b_Mod_numberOf 4 (some .int) :: zT) rm_M_numberOf (zRc D classes (TY cI cB cZ) [(r, .inr (4, [.ref ri, .int (iZ iL), .int (iZ go), .ref ro, .int (iZ oL), .ref rc, .int (iZ (o : Int)), .ref rp, .ref rs, .ref rd, .ref rk, .ref rh, .int (iZ bP), .int (iZ bR)])), (rp, .inl (cI, 256, .inl (zA xp))), (rs, .inl (cI, 4096, .inl (zA xs)))] [.ref r, .int (iZ (k : Int))]) (zSi (fun z => z = wgt (xp (xs k).toNat) + cntS xs (xs k) k)) 0 0 (fun _ => False) := by
  refine z_ofr (by decide) (Nat.le_of_ble_eq_true rfl) (Or.inl rfl) ?_
  intro p e s m args below meth c Q E jP jK jret ls jl
  obtain ⟨jx, jb, jrt, jml, jown, jts, jlk⟩ := E
  have jown : s.vm.findClass R_Mod = some m.cls := jown
  have hs0 := hxs k hk
  have hp0 := hpr (xs k).toNat (by omega)
  have jl : lv_has ls 4 [(0, .ref r), (1, .int (iZ (k : Int)))] := jl
  refine lv_aload_n jx jb d_Mod_numberOf_0 rfl (lv_at jl 0 rfl) ?_
  refine va_get (D := D) (ci := 4) (v := .ref rp) (C := R_Mod) (T := F_Mod) (N := 14) jx jb jts i_Mod jown jK.1 jP 0 rfl rfl 7 (by decide) (jts _ fl_Mod_19) (fun _ h9 => h9) rfl d_Mod_numberOf_1 ?_
  refine lv_aload_n jx jb d_Mod_numberOf_4 rfl (lv_at jl 0 rfl) ?_
  refine va_get (D := D) (ci := 4) (v := .ref rs) (C := R_Mod) (T := F_Mod) (N := 14) jx jb jts i_Mod jown jK.1 jP 0 rfl rfl 8 (by decide) (jts _ fl_Mod_22) (fun _ h9 => h9) rfl d_Mod_numberOf_5 ?_
  refine lv_iload_n jx jb d_Mod_numberOf_8 rfl (lv_at jl 1 rfl) ?_
  refine z_iald jx jb jK.1 jP 2 0 rfl rfl k (by omega) d_Mod_numberOf_9 ?_
  refine z_iald jx jb jK.1 jP 1 0 rfl rfl ((xs k).toNat) (by omega) d_Mod_numberOf_10 ?_
  refine z_backe (va_runS (As := [.int (iZ (xp ((xs k).toNat)))]) (rest := []) ⟨jx, jb, jml, jown, jts⟩ (c_M_weight l D cI cB cZ (xp ((xs k).toNat)) (by first | assumption | omega)) (zc_S 1 jts cd_Mod_weight lk_Mod_46 st_Mod_weight in_Mod hd_Mod_weight ⟨Nat.le_of_ble_eq_true rfl, Nat.le_of_ble_eq_true rfl⟩ rfl rfl) (z_preSR jK jP [] rfl) rfl rfl jl.1 rfl (lv_room (Nat.le_of_ble_eq_true rfl)) d_Mod_numberOf_11 ⟨Nat.le_of_ble_eq_true rfl, Nat.le_of_ble_eq_true rfl⟩) ?_
  refine z_top (wgt (xp (xs k).toNat) + cntS xs (xs k) 0) ((Int.add_zero _).symm) ?_
  refine lv_istore_n (lv' := [(2, .int (iZ (wgt (xp (xs k).toNat) + cntS xs (xs k) 0))), (0, .ref r), (1, .int (iZ (k : Int)))]) jx jb d_Mod_numberOf_14 rfl jl (by decide) rfl (fun ls jl => ?_)
  refine lv_iconst (v := iZ 0) jx jb d_Mod_numberOf_15 rfl ?_
  refine lv_istore_n (lv' := [(3, .int (iZ 0)), (2, .int (iZ (wgt (xp (xs k).toNat) + cntS xs (xs k) 0))), (0, .ref r), (1, .int (iZ (k : Int)))]) jx jb d_Mod_numberOf_16 rfl jl (by decide) rfl (fun ls jl => ?_)
  have hloop17 : ∀ (nF : Nat) (j : Nat), k - j < nF → (j ≤ k) → ∀ ls : Array Slot, lv_has ls 4 [(0, .ref r), (1, .int (iZ (k : Int))), (2, .int (iZ (wgt (xp (xs k).toNat) + cntS xs (xs k) j))), (3, .int (iZ (j : Int)))] → W p l e rm_M_numberOf s m args below meth c s.heap [] 0 0 Q (F0 m 17 ls []) := by
    intro nF
    induction nF with
    | zero => intro j hm; exact absurd hm (Nat.not_lt_zero _)
    | succ nF ih17 =>
      intro j hm hj ls jl
      refine lv_iload_n jx jb d_Mod_numberOf_17 rfl (lv_at jl 3 rfl) ?_
      refine lv_iload_n jx jb d_Mod_numberOf_18 rfl (lv_at jl 1 rfl) ?_
      refine z_icmp_ge (tgt := 46) jx jb d_Mod_numberOf_19 (by decide) ⟨⟨by omega, by omega⟩, ⟨by omega, by omega⟩⟩ (fun hc19 => ?_) (fun hc19 => ?_)
      ·
        refine lv_iload_n jx jb d_Mod_numberOf_46 rfl (lv_at jl 2 rfl) ?_
        exact jret _ _ _ (Or.inl rfl) (by rw [show j = k by omega]) d_Mod_numberOf_47
      ·
        refine lv_aload_n jx jb d_Mod_numberOf_22 rfl (lv_at jl 0 rfl) ?_
        refine va_get (D := D) (ci := 4) (v := .ref rs) (C := R_Mod) (T := F_Mod) (N := 14) jx jb jts i_Mod jown jK.1 jP 0 rfl rfl 8 (by decide) (jts _ fl_Mod_22) (fun _ h9 => h9) rfl d_Mod_numberOf_23 ?_
        refine lv_iload_n jx jb d_Mod_numberOf_26 rfl (lv_at jl 3 rfl) ?_
        refine z_iald jx jb jK.1 jP 2 0 rfl rfl j (by omega) d_Mod_numberOf_27 ?_
        refine lv_aload_n jx jb d_Mod_numberOf_28 rfl (lv_at jl 0 rfl) ?_
        refine va_get (D := D) (ci := 4) (v := .ref rs) (C := R_Mod) (T := F_Mod) (N := 14) jx jb jts i_Mod jown jK.1 jP 0 rfl rfl 8 (by decide) (jts _ fl_Mod_22) (fun _ h9 => h9) rfl d_Mod_numberOf_29 ?_
        refine lv_iload_n jx jb d_Mod_numberOf_32 rfl (lv_at jl 1 rfl) ?_
        refine z_iald jx jb jK.1 jP 2 0 rfl rfl k (by omega) d_Mod_numberOf_33 ?_
        have hsj := hxs j (by omega)
        refine z_icmp_ne (tgt := 40) jx jb d_Mod_numberOf_34 (by decide) ⟨⟨by omega, by omega⟩, ⟨by omega, by omega⟩⟩ (fun hc34 => ?_) (fun hc34 => ?_)
        ·
          rw [← cntS_n hc34] at jl
          refine lv_iinc (v := iZ ((j : Int) + 1)) (lv' := [(3, .int (iZ ((j : Int) + 1))), (0, .ref r), (1, .int (iZ (k : Int))), (2, .int (iZ (wgt (xp (xs k).toNat) + cntS xs (xs k) (j + 1))))]) jx jb d_Mod_numberOf_40 jl (k := 3) rfl (iZ_add _ _) (by decide) rfl (fun ls jl => ?_)
          refine lv_goto (tgt := 17) jx jb d_Mod_numberOf_43 (by decide) ?_
          exact ih17 (j + 1) (by omega) (by first | assumption | omega) _ (lv_sub jl [1, 2, 3, 0] rfl)
        ·
          refine lv_iinc (v := iZ (wgt (xp (xs k).toNat) + cntS xs (xs k) (j + 1))) (lv' := [(2, .int (iZ (wgt (xp (xs k).toNat) + cntS xs (xs k) (j + 1)))), (0, .ref r), (1, .int (iZ (k : Int))), (3, .int (iZ (j : Int)))]) jx jb d_Mod_numberOf_37 jl (k := 2) rfl (by rw [show (wgt (xp (xs k).toNat) + cntS xs (xs k) (j + 1)) = (wgt (xp (xs k).toNat) + cntS xs (xs k) j) + 1 from by rw [cntS_s hc34]; omega]; exact iZ_add _ _) (by decide) rfl (fun ls jl => ?_)
          refine lv_iinc (v := iZ ((j : Int) + 1)) (lv' := [(3, .int (iZ ((j : Int) + 1))), (2, .int (iZ (wgt (xp (xs k).toNat) + cntS xs (xs k) (j + 1)))), (0, .ref r), (1, .int (iZ (k : Int)))]) jx jb d_Mod_numberOf_40 jl (k := 3) rfl (iZ_add _ _) (by decide) rfl (fun ls jl => ?_)
          refine lv_goto (tgt := 17) jx jb d_Mod_numberOf_43 (by decide) ?_
          exact ih17 (j + 1) (by omega) (by first | assumption | omega) _ (lv_sub jl [2, 3, 1, 0] rfl)
  exact hloop17 ((k - 0) + 1) 0 (Nat.lt_succ_self _) (by first | assumption | omega) _ (lv_sub jl [2, 3, 1, 0] rfl)
end
section
/-! the reference's OUT: V of B bits are put, and stand in g -/
def mO (V B : Nat) (g : Nat → Int) : Prop := V < 2 ^ B ∧ B ≤ 48000 ∧ ∀ k, k < 6000 → g k = ((V / 2 ^ (8 * k) % 256 : Nat) : Int)
theorem p2n (n : Nat) : ((2 ^ n : Nat) : Int) = 2 ^ n := by rw [Int.natCast_pow]; rfl
theorem p2c (a b : Nat) : 2 ^ (a + b) = 2 ^ a * 2 ^ b := Nat.pow_add 2 a b
theorem mO_bit {V B b : Nat} {g : Nat → Int} (h : mO V B g) (hb : b < 2) (hB : B < 48000) : mO (V + b * 2 ^ B) (B + 1) (zu g (B / 8) (g (B / 8) + (b : Int) * 2 ^ (B % 8))) := by
  obtain ⟨h1, h2, h3⟩ := h
  refine ⟨?_, by omega, fun k hk => ?_⟩
  · rw [Nat.pow_succ]
    rcases (by omega : b = 0 ∨ b = 1) with rfl | rfl
    · omega
    · omega
  · by_cases e : k = B / 8
    · subst e
      rw [zu_s, h3 _ hk]
      have hB8 : B = 8 * (B / 8) + B % 8 := by omega
      have e1 : 2 ^ B = 2 ^ (8 * (B / 8)) * 2 ^ (B % 8) := by rw [← p2c, ← hB8]
      have hp : 0 < 2 ^ (8 * (B / 8)) := Nat.pow_pos (by decide)
      have q1 : V / 2 ^ (8 * (B / 8)) < 2 ^ (B % 8) := (Nat.div_lt_iff_lt_mul hp).mpr (by rw [Nat.mul_comm, ← e1]; exact h1)
      have q2 : 2 ^ (B % 8) ≤ 2 ^ 7 := Nat.pow_le_pow_right (by decide) (by omega)
      have q3 : (V + b * 2 ^ B) / 2 ^ (8 * (B / 8)) = V / 2 ^ (8 * (B / 8)) + b * 2 ^ (B % 8) := by
        rw [e1, Nat.mul_left_comm, Nat.add_mul_div_left _ _ hp]
      have q4 : b * 2 ^ (B % 8) ≤ 128 := by
        have := Nat.mul_le_mul (show b ≤ 1 by omega) q2
        omega
      have q5 : b * 2 ^ (B % 8) = 0 ∨ b * 2 ^ (B % 8) = 2 ^ (B % 8) := by
        rcases (by omega : b = 0 ∨ b = 1) with rfl | rfl
        · exact Or.inl (Nat.zero_mul _)
        · exact Or.inr (Nat.one_mul _)
      have q6 : V / 2 ^ (8 * (B / 8)) % 256 = V / 2 ^ (8 * (B / 8)) := Nat.mod_eq_of_lt (by omega)
      have q7 : (V / 2 ^ (8 * (B / 8)) + b * 2 ^ (B % 8)) % 256 = V / 2 ^ (8 * (B / 8)) + b * 2 ^ (B % 8) := Nat.mod_eq_of_lt (by omega)
      rw [q3, q6, q7, Int.natCast_add, Int.natCast_mul, p2n]
    · rw [zu_n e, h3 k hk]
      congr 1
      rcases Nat.lt_or_ge k (B / 8) with q | q
      · have e2 : 2 ^ B = 2 ^ (8 * k) * (256 * 2 ^ (B - 8 * k - 8)) := by
          rw [show (256 : Nat) = 2 ^ 8 from rfl, ← p2c, ← p2c]; congr 1; omega
        rw [e2, Nat.mul_left_comm, Nat.mul_left_comm b 256, Nat.add_mul_div_left _ _ (Nat.pow_pos (by decide)), Nat.add_mul_mod_self_left]
      · have e3 : 2 ^ (B + 1) ≤ 2 ^ (8 * k) := Nat.pow_le_pow_right (by decide) (by omega)
        have e4 : V + b * 2 ^ B < 2 ^ (B + 1) := by
          rw [Nat.pow_succ]
          rcases (by omega : b = 0 ∨ b = 1) with rfl | rfl
          · omega
          · omega
        rw [Nat.div_eq_of_lt (by omega), Nat.div_eq_of_lt (by omega)]
theorem mO_step {V B x j : Nat} {g : Nat → Int} (h : mO (V + x % 2 ^ j * 2 ^ B) (B + j) g) (hB : B + j < 48000) : mO (V + x % 2 ^ (j + 1) * 2 ^ B) (B + (j + 1)) (zu g ((B + j) / 8) (g ((B + j) / 8) + (x : Int) / 2 ^ j % 2 * 2 ^ ((B + j) % 8))) := by
  have e1 : x % 2 ^ (j + 1) = x % 2 ^ j + 2 ^ j * (x / 2 ^ j % 2) := by rw [Nat.pow_succ, Nat.mod_mul]
  have e2 : V + x % 2 ^ (j + 1) * 2 ^ B = V + x % 2 ^ j * 2 ^ B + (x / 2 ^ j % 2) * 2 ^ (B + j) := by
    rw [e1, Nat.add_mul, p2c, Nat.add_assoc, Nat.mul_comm (2 ^ j), Nat.mul_assoc, Nat.mul_comm (2 ^ j) (2 ^ B)]
  have e3 : (x : Int) / 2 ^ j % 2 = ((x / 2 ^ j % 2 : Nat) : Int) := by rw [← p2n, Int.natCast_emod, Int.natCast_ediv]; rfl
  rw [e2, e3]
  exact mO_bit h (Nat.mod_lt _ (by decide)) hB
theorem mO_0 {V B x : Nat} {g : Nat → Int} (h : mO V B g) : mO (V + x % 2 ^ 0 * 2 ^ B) (B + 0) g := by
  rw [Nat.pow_zero, Nat.mod_one, Nat.zero_mul, Nat.add_zero]
  exact h
theorem mO_e {V B x n : Nat} {g : Nat → Int} (h : mO (V + x % 2 ^ n * 2 ^ B) (B + n) g) (hx : x < 2 ^ n) : mO (V + x * 2 ^ B) (B + n) g := by
  rw [Nat.mod_eq_of_lt hx] at h
  exact h
theorem mO_begin {g : Nat → Int} (h : ∀ k, k < 6000 → g k = 0) : mO 0 0 g := ⟨by decide, by decide, fun k hk => by rw [h k hk, Nat.zero_div]; rfl⟩
/-- the number of n bits from bit q on -/
def nbI (b : Nat → Int) (q : Nat) : Nat → Int
  | 0 => 0
  | n + 1 => nbI b q n + b ((q + n) / 8) / 2 ^ ((q + n) % 8) % 2 * 2 ^ n
theorem nbI_b (b : Nat → Int) (q : Nat) : ∀ n : Nat, 0 ≤ nbI b q n ∧ nbI b q n < 2 ^ n
  | 0 => ⟨Int.le_refl 0, by show (0 : Int) < 2 ^ 0; decide⟩
  | n + 1 => by
    have h := nbI_b b q n
    have h0 := p2_pos n
    show 0 ≤ nbI b q n + b ((q + n) / 8) / 2 ^ ((q + n) % 8) % 2 * 2 ^ n ∧ nbI b q n + b ((q + n) / 8) / 2 ^ ((q + n) % 8) % 2 * 2 ^ n < 2 ^ (n + 1)
    rw [p2_s]
    rcases (by omega : b ((q + n) / 8) / 2 ^ ((q + n) % 8) % 2 = 0 ∨ b ((q + n) / 8) / 2 ^ ((q + n) % 8) % 2 = 1) with e | e
    · rw [e]; omega
    · rw [e]; omega
/-- the number of a state for a symbol of weight w -/
theorem enc_ex {wh w : Int} {o : Nat} (h1 : 2 ^ o ≤ wh) (h2 : wh < 2 ^ (o + 1)) (hw : 1 ≤ w) (hw2 : w ≤ 2 ^ o) : ∃ n : Nat, n ≤ o ∧ w ≤ wh / 2 ^ n ∧ wh / 2 ^ n < 2 * w := by
  have key : ∀ d : Nat, d ≤ o → (wh / 2 ^ d < 2 * w) → ∃ n : Nat, n ≤ o ∧ w ≤ wh / 2 ^ n ∧ wh / 2 ^ n < 2 * w := by
    intro d
    induction d with
    | zero =>
      intro _ h
      exact ⟨0, Nat.zero_le _, by rw [Int.pow_zero, Int.ediv_one]; omega, h⟩
    | succ d ih =>
      intro hd h
      rcases (by omega : wh / 2 ^ d < 2 * w ∨ 2 * w ≤ wh / 2 ^ d) with q | q
      · exact ih (by omega) q
      · refine ⟨d + 1, hd, ?_, h⟩
        rw [Int.pow_succ, ← Int.ediv_ediv_of_nonneg (Int.le_of_lt (p2_pos d))]
        omega
  refine key o (Nat.le_refl o) ?_
  have hp := p2_pos o
  rw [p2_s] at h2
  have : wh / 2 ^ o < 2 := Int.ediv_lt_of_lt_mul hp (by omega)
  omega
theorem zlog_div {wh : Int} {o b : Nat} (h1 : 2 ^ o ≤ wh) (h2 : wh < 2 ^ (o + 1)) (hb : b ≤ o) : zlog (wh / 2 ^ b) = o - b := by
  have hp := p2_pos b
  have e1 : (2 : Int) ^ o = 2 ^ (o - b) * 2 ^ b := by rw [← Int.pow_add]; congr 1; omega
  have e2 : (2 : Int) ^ (o + 1) = 2 ^ (o - b + 1) * 2 ^ b := by rw [← Int.pow_add]; congr 1; omega
  exact zlog_is ((Int.le_ediv_iff_mul_le hp).mpr (by rw [← e1]; exact h1)) (Int.ediv_lt_of_lt_mul hp (by rw [← e2]; exact h2))
theorem wh_div {wh : Int} {b : Nat} (h : 0 ≤ wh) : 0 ≤ wh / 2 ^ b ∧ wh / 2 ^ b ≤ wh := ⟨Int.ediv_nonneg h (Int.le_of_lt (p2_pos b)), Int.ediv_le_self _ h⟩
theorem nb_or {a b : Int} {j : Nat} (h : 0 ≤ a ∧ a < 2 ^ j) (hj : (2 : Int) ^ j ≤ 2 ^ 13) : 0 ≤ a ∧ a < 2 ^ j ∧ 0 ≤ b % 2 ∧ a + b % 2 * 2 ^ j < 4294967296 := by
  refine ⟨h.1, h.2, by omega, ?_⟩
  rcases (by omega : b % 2 = 0 ∨ b % 2 = 1) with e | e
  · rw [e]; omega
  · rw [e]; omega
theorem wgt_b {p : Int} (h : -1 ≤ p ∧ p ≤ 65536) : 0 ≤ wgt p ∧ wgt p ≤ 65536 := by unfold wgt; split <;> omega
end
section
theorem fl_Mod_77 : Cond.fieldLink R_Mod 77 "StateCoderModel" "bitsPut" "I" ∈ zT := zT_of (List.mem_of_getElem? (i := 494) (by decide +kernel)) rfl
theorem cd_Mod_bitsFor : Cond.code y_Mod_bitsFor b_Mod_bitsFor 2 (some .int) ∈ zT := zT_of (List.mem_of_getElem? (i := 611) (by decide +kernel)) rfl
theorem hd_Mod_bitsFor : y_Mod_bitsFor.cls ≠ "java/lang/invoke/MethodHandle" ∧ y_Mod_bitsFor.cls ≠ "java/lang/invoke/VarHandle" ∧ (parseMethodDescriptor y_Mod_bitsFor.desc).map (fun d => d.parameters.length) = some 1 := by decide +kernel
theorem lk_Mod_80 : Cond.methodLink R_Mod 80 y_Mod_bitsFor ∈ zT := zT_of (List.mem_of_getElem? (i := 609) (by decide +kernel)) rfl
theorem st_Mod_bitsFor : Cond.static y_Mod_bitsFor ∈ zT := zT_of (List.mem_of_getElem? (i := 610) (by decide +kernel)) rfl
theorem cd_Mod_put : Cond.code y_Mod_put b_Mod_put 4 none ∈ zT := zT_of (List.mem_of_getElem? (i := 604) (by decide +kernel)) rfl
theorem hd_Mod_put : y_Mod_put.cls ≠ "java/lang/invoke/MethodHandle" ∧ y_Mod_put.cls ≠ "java/lang/invoke/VarHandle" ∧ (parseMethodDescriptor y_Mod_put.desc).map (fun d => d.parameters.length) = some 2 := by decide +kernel
theorem lk_Mod_83 : Cond.methodLink R_Mod 83 y_Mod_put ∈ zT := zT_of (List.mem_of_getElem? (i := 601) (by decide +kernel)) rfl
theorem im_Mod_put : Cond.instanceMethod y_Mod_put ∈ zT := zT_of (List.mem_of_getElem? (i := 603) (by decide +kernel)) rfl
theorem se_Mod_put : Cond.selects R_Mod y_Mod_put y_Mod_put ∈ zT := zT_of (List.mem_of_getElem? (i := 18) (by decide +kernel)) rfl
theorem fl_Mod_96 : Cond.fieldLink R_Mod 96 "StateCoderModel" "bitsRead" "I" ∈ zT := zT_of (List.mem_of_getElem? (i := 495) (by decide +kernel)) rfl
theorem fl_Mod_7 : Cond.fieldLink R_Mod 7 "StateCoderModel" "in" "[I" ∈ zT := zT_of (List.mem_of_getElem? (i := 482) (by decide +kernel)) rfl
theorem cd_Mod_take : Cond.code y_Mod_take b_Mod_take 5 (some .int) ∈ zT := zT_of (List.mem_of_getElem? (i := 623) (by decide +kernel)) rfl
theorem hd_Mod_take : y_Mod_take.cls ≠ "java/lang/invoke/MethodHandle" ∧ y_Mod_take.cls ≠ "java/lang/invoke/VarHandle" ∧ (parseMethodDescriptor y_Mod_take.desc).map (fun d => d.parameters.length) = some 1 := by decide +kernel
theorem lk_Mod_99 : Cond.methodLink R_Mod 99 y_Mod_take ∈ zT := zT_of (List.mem_of_getElem? (i := 620) (by decide +kernel)) rfl
theorem im_Mod_take : Cond.instanceMethod y_Mod_take ∈ zT := zT_of (List.mem_of_getElem? (i := 622) (by decide +kernel)) rfl
theorem se_Mod_take : Cond.selects R_Mod y_Mod_take y_Mod_take ∈ zT := zT_of (List.mem_of_getElem? (i := 21) (by decide +kernel)) rfl
theorem d_Mod_beginOut_0 : decode b_Mod_beginOut 0 = .ok (.iconst 0, 1) := by decide +kernel
theorem d_Mod_beginOut_1 : decode b_Mod_beginOut 1 = .ok (.istore_n 1, 1) := by decide +kernel
theorem d_Mod_beginOut_2 : decode b_Mod_beginOut 2 = .ok (.iload_n 1, 1) := by decide +kernel
theorem d_Mod_beginOut_3 : decode b_Mod_beginOut 3 = .ok (.sipush 6000, 3) := by decide +kernel
theorem d_Mod_beginOut_6 : decode b_Mod_beginOut 6 = .ok (.if_icmp .ge 16, 3) := by decide +kernel
theorem d_Mod_beginOut_9 : decode b_Mod_beginOut 9 = .ok (.aload_n 0, 1) := by decide +kernel
theorem d_Mod_beginOut_10 : decode b_Mod_beginOut 10 = .ok (.getfield 13, 3) := by decide +kernel
theorem d_Mod_beginOut_13 : decode b_Mod_beginOut 13 = .ok (.iload_n 1, 1) := by decide +kernel
theorem d_Mod_beginOut_14 : decode b_Mod_beginOut 14 = .ok (.iconst 0, 1) := by decide +kernel
theorem d_Mod_beginOut_15 : decode b_Mod_beginOut 15 = .ok (.iastore, 1) := by decide +kernel
theorem d_Mod_beginOut_16 : decode b_Mod_beginOut 16 = .ok (.iinc 1 1, 3) := by decide +kernel
theorem d_Mod_beginOut_19 : decode b_Mod_beginOut 19 = .ok (.goto (-17), 3) := by decide +kernel
theorem d_Mod_beginOut_22 : decode b_Mod_beginOut 22 = .ok (.aload_n 0, 1) := by decide +kernel
theorem d_Mod_beginOut_23 : decode b_Mod_beginOut 23 = .ok (.iconst 0, 1) := by decide +kernel
theorem d_Mod_beginOut_24 : decode b_Mod_beginOut 24 = .ok (.putfield 77, 3) := by decide +kernel
theorem d_Mod_beginOut_27 : decode b_Mod_beginOut 27 = .ok (.return_, 1) := by decide +kernel
theorem d_Mod_endOut_0 : decode b_Mod_endOut 0 = .ok (.aload_n 0, 1) := by decide +kernel
theorem d_Mod_endOut_1 : decode b_Mod_endOut 1 = .ok (.aload_n 0, 1) := by decide +kernel
theorem d_Mod_endOut_2 : decode b_Mod_endOut 2 = .ok (.getfield 77, 3) := by decide +kernel
theorem d_Mod_endOut_5 : decode b_Mod_endOut 5 = .ok (.bipush 7, 2) := by decide +kernel
theorem d_Mod_endOut_7 : decode b_Mod_endOut 7 = .ok (.iadd, 1) := by decide +kernel
theorem d_Mod_endOut_8 : decode b_Mod_endOut 8 = .ok (.bipush 8, 2) := by decide +kernel
theorem d_Mod_endOut_10 : decode b_Mod_endOut 10 = .ok (.idiv, 1) := by decide +kernel
theorem d_Mod_endOut_11 : decode b_Mod_endOut 11 = .ok (.putfield 39, 3) := by decide +kernel
theorem d_Mod_endOut_14 : decode b_Mod_endOut 14 = .ok (.aload_n 0, 1) := by decide +kernel
theorem d_Mod_endOut_15 : decode b_Mod_endOut 15 = .ok (.getfield 39, 3) := by decide +kernel
theorem d_Mod_endOut_18 : decode b_Mod_endOut 18 = .ok (.ireturn, 1) := by decide +kernel
theorem d_Mod_put_0 : decode b_Mod_put 0 = .ok (.iconst 0, 1) := by decide +kernel
theorem d_Mod_put_1 : decode b_Mod_put 1 = .ok (.istore_n 3, 1) := by decide +kernel
theorem d_Mod_put_2 : decode b_Mod_put 2 = .ok (.iload_n 3, 1) := by decide +kernel
theorem d_Mod_put_3 : decode b_Mod_put 3 = .ok (.iload_n 2, 1) := by decide +kernel
theorem d_Mod_put_4 : decode b_Mod_put 4 = .ok (.if_icmp .ge 47, 3) := by decide +kernel
theorem d_Mod_put_7 : decode b_Mod_put 7 = .ok (.aload_n 0, 1) := by decide +kernel
theorem d_Mod_put_8 : decode b_Mod_put 8 = .ok (.getfield 13, 3) := by decide +kernel
theorem d_Mod_put_11 : decode b_Mod_put 11 = .ok (.aload_n 0, 1) := by decide +kernel
theorem d_Mod_put_12 : decode b_Mod_put 12 = .ok (.getfield 77, 3) := by decide +kernel
theorem d_Mod_put_15 : decode b_Mod_put 15 = .ok (.bipush 8, 2) := by decide +kernel
theorem d_Mod_put_17 : decode b_Mod_put 17 = .ok (.idiv, 1) := by decide +kernel
theorem d_Mod_put_18 : decode b_Mod_put 18 = .ok (.dup2, 1) := by decide +kernel
theorem d_Mod_put_19 : decode b_Mod_put 19 = .ok (.iaload, 1) := by decide +kernel
theorem d_Mod_put_20 : decode b_Mod_put 20 = .ok (.iload_n 1, 1) := by decide +kernel
theorem d_Mod_put_21 : decode b_Mod_put 21 = .ok (.iload_n 3, 1) := by decide +kernel
theorem d_Mod_put_22 : decode b_Mod_put 22 = .ok (.ishr, 1) := by decide +kernel
theorem d_Mod_put_23 : decode b_Mod_put 23 = .ok (.iconst 1, 1) := by decide +kernel
theorem d_Mod_put_24 : decode b_Mod_put 24 = .ok (.iand, 1) := by decide +kernel
theorem d_Mod_put_25 : decode b_Mod_put 25 = .ok (.aload_n 0, 1) := by decide +kernel
theorem d_Mod_put_26 : decode b_Mod_put 26 = .ok (.getfield 77, 3) := by decide +kernel
theorem d_Mod_put_29 : decode b_Mod_put 29 = .ok (.bipush 8, 2) := by decide +kernel
theorem d_Mod_put_31 : decode b_Mod_put 31 = .ok (.irem, 1) := by decide +kernel
theorem d_Mod_put_32 : decode b_Mod_put 32 = .ok (.ishl, 1) := by decide +kernel
theorem d_Mod_put_33 : decode b_Mod_put 33 = .ok (.iadd, 1) := by decide +kernel
theorem d_Mod_put_34 : decode b_Mod_put 34 = .ok (.iastore, 1) := by decide +kernel
theorem d_Mod_put_35 : decode b_Mod_put 35 = .ok (.aload_n 0, 1) := by decide +kernel
theorem d_Mod_put_36 : decode b_Mod_put 36 = .ok (.dup, 1) := by decide +kernel
theorem d_Mod_put_37 : decode b_Mod_put 37 = .ok (.getfield 77, 3) := by decide +kernel
theorem d_Mod_put_40 : decode b_Mod_put 40 = .ok (.iconst 1, 1) := by decide +kernel
theorem d_Mod_put_41 : decode b_Mod_put 41 = .ok (.iadd, 1) := by decide +kernel
theorem d_Mod_put_42 : decode b_Mod_put 42 = .ok (.putfield 77, 3) := by decide +kernel
theorem d_Mod_put_45 : decode b_Mod_put 45 = .ok (.iinc 3 1, 3) := by decide +kernel
theorem d_Mod_put_48 : decode b_Mod_put 48 = .ok (.goto (-46), 3) := by decide +kernel
theorem d_Mod_put_51 : decode b_Mod_put 51 = .ok (.return_, 1) := by decide +kernel
theorem d_Mod_putNumber_0 : decode b_Mod_putNumber 0 = .ok (.iload_n 2, 1) := by decide +kernel
theorem d_Mod_putNumber_1 : decode b_Mod_putNumber 1 = .ok (.invokestatic 80, 3) := by decide +kernel
theorem d_Mod_putNumber_4 : decode b_Mod_putNumber 4 = .ok (.istore_n 3, 1) := by decide +kernel
theorem d_Mod_putNumber_5 : decode b_Mod_putNumber 5 = .ok (.iconst 1, 1) := by decide +kernel
theorem d_Mod_putNumber_6 : decode b_Mod_putNumber 6 = .ok (.iload_n 3, 1) := by decide +kernel
theorem d_Mod_putNumber_7 : decode b_Mod_putNumber 7 = .ok (.ishl, 1) := by decide +kernel
theorem d_Mod_putNumber_8 : decode b_Mod_putNumber 8 = .ok (.istore 4, 2) := by decide +kernel
theorem d_Mod_putNumber_10 : decode b_Mod_putNumber 10 = .ok (.iconst 2, 1) := by decide +kernel
theorem d_Mod_putNumber_11 : decode b_Mod_putNumber 11 = .ok (.iload 4, 2) := by decide +kernel
theorem d_Mod_putNumber_13 : decode b_Mod_putNumber 13 = .ok (.imul, 1) := by decide +kernel
theorem d_Mod_putNumber_14 : decode b_Mod_putNumber 14 = .ok (.iconst 2, 1) := by decide +kernel
theorem d_Mod_putNumber_15 : decode b_Mod_putNumber 15 = .ok (.isub, 1) := by decide +kernel
theorem d_Mod_putNumber_16 : decode b_Mod_putNumber 16 = .ok (.iload_n 2, 1) := by decide +kernel
theorem d_Mod_putNumber_17 : decode b_Mod_putNumber 17 = .ok (.isub, 1) := by decide +kernel
theorem d_Mod_putNumber_18 : decode b_Mod_putNumber 18 = .ok (.istore 5, 2) := by decide +kernel
theorem d_Mod_putNumber_20 : decode b_Mod_putNumber 20 = .ok (.iload_n 1, 1) := by decide +kernel
theorem d_Mod_putNumber_21 : decode b_Mod_putNumber 21 = .ok (.iload 5, 2) := by decide +kernel
theorem d_Mod_putNumber_23 : decode b_Mod_putNumber 23 = .ok (.if_icmp .ge 12, 3) := by decide +kernel
theorem d_Mod_putNumber_26 : decode b_Mod_putNumber 26 = .ok (.aload_n 0, 1) := by decide +kernel
theorem d_Mod_putNumber_27 : decode b_Mod_putNumber 27 = .ok (.iload_n 1, 1) := by decide +kernel
theorem d_Mod_putNumber_28 : decode b_Mod_putNumber 28 = .ok (.iload_n 3, 1) := by decide +kernel
theorem d_Mod_putNumber_29 : decode b_Mod_putNumber 29 = .ok (.invokevirtual 83, 3) := by decide +kernel
theorem d_Mod_putNumber_32 : decode b_Mod_putNumber 32 = .ok (.goto 24, 3) := by decide +kernel
theorem d_Mod_putNumber_35 : decode b_Mod_putNumber 35 = .ok (.aload_n 0, 1) := by decide +kernel
theorem d_Mod_putNumber_36 : decode b_Mod_putNumber 36 = .ok (.iload_n 1, 1) := by decide +kernel
theorem d_Mod_putNumber_37 : decode b_Mod_putNumber 37 = .ok (.iload 4, 2) := by decide +kernel
theorem d_Mod_putNumber_39 : decode b_Mod_putNumber 39 = .ok (.if_icmp .ge 7, 3) := by decide +kernel
theorem d_Mod_putNumber_42 : decode b_Mod_putNumber 42 = .ok (.iload_n 1, 1) := by decide +kernel
theorem d_Mod_putNumber_43 : decode b_Mod_putNumber 43 = .ok (.goto 7, 3) := by decide +kernel
theorem d_Mod_putNumber_46 : decode b_Mod_putNumber 46 = .ok (.iload_n 1, 1) := by decide +kernel
theorem d_Mod_putNumber_47 : decode b_Mod_putNumber 47 = .ok (.iload 5, 2) := by decide +kernel
theorem d_Mod_putNumber_49 : decode b_Mod_putNumber 49 = .ok (.iadd, 1) := by decide +kernel
theorem d_Mod_putNumber_50 : decode b_Mod_putNumber 50 = .ok (.iload_n 3, 1) := by decide +kernel
theorem d_Mod_putNumber_51 : decode b_Mod_putNumber 51 = .ok (.iconst 1, 1) := by decide +kernel
theorem d_Mod_putNumber_52 : decode b_Mod_putNumber 52 = .ok (.iadd, 1) := by decide +kernel
theorem d_Mod_putNumber_53 : decode b_Mod_putNumber 53 = .ok (.invokevirtual 83, 3) := by decide +kernel
theorem d_Mod_putNumber_56 : decode b_Mod_putNumber 56 = .ok (.return_, 1) := by decide +kernel
theorem d_Mod_take_0 : decode b_Mod_take 0 = .ok (.bipush 8, 2) := by decide +kernel
theorem d_Mod_take_2 : decode b_Mod_take 2 = .ok (.aload_n 0, 1) := by decide +kernel
theorem d_Mod_take_3 : decode b_Mod_take 3 = .ok (.getfield 42, 3) := by decide +kernel
theorem d_Mod_take_6 : decode b_Mod_take 6 = .ok (.imul, 1) := by decide +kernel
theorem d_Mod_take_7 : decode b_Mod_take 7 = .ok (.aload_n 0, 1) := by decide +kernel
theorem d_Mod_take_8 : decode b_Mod_take 8 = .ok (.getfield 96, 3) := by decide +kernel
theorem d_Mod_take_11 : decode b_Mod_take 11 = .ok (.iadd, 1) := by decide +kernel
theorem d_Mod_take_12 : decode b_Mod_take 12 = .ok (.iload_n 1, 1) := by decide +kernel
theorem d_Mod_take_13 : decode b_Mod_take 13 = .ok (.iadd, 1) := by decide +kernel
theorem d_Mod_take_14 : decode b_Mod_take 14 = .ok (.bipush 8, 2) := by decide +kernel
theorem d_Mod_take_16 : decode b_Mod_take 16 = .ok (.aload_n 0, 1) := by decide +kernel
theorem d_Mod_take_17 : decode b_Mod_take 17 = .ok (.getfield 35, 3) := by decide +kernel
theorem d_Mod_take_20 : decode b_Mod_take 20 = .ok (.imul, 1) := by decide +kernel
theorem d_Mod_take_21 : decode b_Mod_take 21 = .ok (.if_icmp .le 5, 3) := by decide +kernel
theorem d_Mod_take_24 : decode b_Mod_take 24 = .ok (.iconst (-1), 1) := by decide +kernel
theorem d_Mod_take_25 : decode b_Mod_take 25 = .ok (.ireturn, 1) := by decide +kernel
theorem d_Mod_take_26 : decode b_Mod_take 26 = .ok (.iconst 0, 1) := by decide +kernel
theorem d_Mod_take_27 : decode b_Mod_take 27 = .ok (.istore_n 2, 1) := by decide +kernel
theorem d_Mod_take_28 : decode b_Mod_take 28 = .ok (.iconst 0, 1) := by decide +kernel
theorem d_Mod_take_29 : decode b_Mod_take 29 = .ok (.istore_n 3, 1) := by decide +kernel
theorem d_Mod_take_30 : decode b_Mod_take 30 = .ok (.iload_n 3, 1) := by decide +kernel
theorem d_Mod_take_31 : decode b_Mod_take 31 = .ok (.iload_n 1, 1) := by decide +kernel
theorem d_Mod_take_32 : decode b_Mod_take 32 = .ok (.if_icmp .ge 48, 3) := by decide +kernel
theorem d_Mod_take_35 : decode b_Mod_take 35 = .ok (.bipush 8, 2) := by decide +kernel
theorem d_Mod_take_37 : decode b_Mod_take 37 = .ok (.aload_n 0, 1) := by decide +kernel
theorem d_Mod_take_38 : decode b_Mod_take 38 = .ok (.getfield 42, 3) := by decide +kernel
theorem d_Mod_take_41 : decode b_Mod_take 41 = .ok (.imul, 1) := by decide +kernel
theorem d_Mod_take_42 : decode b_Mod_take 42 = .ok (.aload_n 0, 1) := by decide +kernel
theorem d_Mod_take_43 : decode b_Mod_take 43 = .ok (.getfield 96, 3) := by decide +kernel
theorem d_Mod_take_46 : decode b_Mod_take 46 = .ok (.iadd, 1) := by decide +kernel
theorem d_Mod_take_47 : decode b_Mod_take 47 = .ok (.iload_n 3, 1) := by decide +kernel
theorem d_Mod_take_48 : decode b_Mod_take 48 = .ok (.iadd, 1) := by decide +kernel
theorem d_Mod_take_49 : decode b_Mod_take 49 = .ok (.istore 4, 2) := by decide +kernel
theorem d_Mod_take_51 : decode b_Mod_take 51 = .ok (.iload_n 2, 1) := by decide +kernel
theorem d_Mod_take_52 : decode b_Mod_take 52 = .ok (.aload_n 0, 1) := by decide +kernel
theorem d_Mod_take_53 : decode b_Mod_take 53 = .ok (.getfield 7, 3) := by decide +kernel
theorem d_Mod_take_56 : decode b_Mod_take 56 = .ok (.iload 4, 2) := by decide +kernel
theorem d_Mod_take_58 : decode b_Mod_take 58 = .ok (.bipush 8, 2) := by decide +kernel
theorem d_Mod_take_60 : decode b_Mod_take 60 = .ok (.idiv, 1) := by decide +kernel
theorem d_Mod_take_61 : decode b_Mod_take 61 = .ok (.iaload, 1) := by decide +kernel
theorem d_Mod_take_62 : decode b_Mod_take 62 = .ok (.iload 4, 2) := by decide +kernel
theorem d_Mod_take_64 : decode b_Mod_take 64 = .ok (.bipush 8, 2) := by decide +kernel
theorem d_Mod_take_66 : decode b_Mod_take 66 = .ok (.irem, 1) := by decide +kernel
theorem d_Mod_take_67 : decode b_Mod_take 67 = .ok (.ishr, 1) := by decide +kernel
theorem d_Mod_take_68 : decode b_Mod_take 68 = .ok (.iconst 1, 1) := by decide +kernel
theorem d_Mod_take_69 : decode b_Mod_take 69 = .ok (.iand, 1) := by decide +kernel
theorem d_Mod_take_70 : decode b_Mod_take 70 = .ok (.iload_n 3, 1) := by decide +kernel
theorem d_Mod_take_71 : decode b_Mod_take 71 = .ok (.ishl, 1) := by decide +kernel
theorem d_Mod_take_72 : decode b_Mod_take 72 = .ok (.ior, 1) := by decide +kernel
theorem d_Mod_take_73 : decode b_Mod_take 73 = .ok (.istore_n 2, 1) := by decide +kernel
theorem d_Mod_take_74 : decode b_Mod_take 74 = .ok (.iinc 3 1, 3) := by decide +kernel
theorem d_Mod_take_77 : decode b_Mod_take 77 = .ok (.goto (-47), 3) := by decide +kernel
theorem d_Mod_take_80 : decode b_Mod_take 80 = .ok (.aload_n 0, 1) := by decide +kernel
theorem d_Mod_take_81 : decode b_Mod_take 81 = .ok (.dup, 1) := by decide +kernel
theorem d_Mod_take_82 : decode b_Mod_take 82 = .ok (.getfield 96, 3) := by decide +kernel
theorem d_Mod_take_85 : decode b_Mod_take 85 = .ok (.iload_n 1, 1) := by decide +kernel
theorem d_Mod_take_86 : decode b_Mod_take 86 = .ok (.iadd, 1) := by decide +kernel
theorem d_Mod_take_87 : decode b_Mod_take 87 = .ok (.putfield 96, 3) := by decide +kernel
theorem d_Mod_take_90 : decode b_Mod_take 90 = .ok (.iload_n 2, 1) := by decide +kernel
theorem d_Mod_take_91 : decode b_Mod_take 91 = .ok (.ireturn, 1) := by decide +kernel
theorem d_Mod_bitsAt_0 : decode b_Mod_bitsAt 0 = .ok (.aload_n 0, 1) := by decide +kernel
theorem d_Mod_bitsAt_1 : decode b_Mod_bitsAt 1 = .ok (.iload_n 1, 1) := by decide +kernel
theorem d_Mod_bitsAt_2 : decode b_Mod_bitsAt 2 = .ok (.putfield 96, 3) := by decide +kernel
theorem d_Mod_bitsAt_5 : decode b_Mod_bitsAt 5 = .ok (.aload_n 0, 1) := by decide +kernel
theorem d_Mod_bitsAt_6 : decode b_Mod_bitsAt 6 = .ok (.iload_n 2, 1) := by decide +kernel
theorem d_Mod_bitsAt_7 : decode b_Mod_bitsAt 7 = .ok (.invokevirtual 99, 3) := by decide +kernel
theorem d_Mod_bitsAt_10 : decode b_Mod_bitsAt 10 = .ok (.ireturn, 1) := by decide +kernel
abbrev rm_M_beginOut : Room := { frames := 0, cells := 0, slots := 0, locals := 0 }
set_option maxHeartbeats 4000000 in
set_option maxRecDepth 100000 in
theorem c_M_beginOut (l : Launch) (D : va_G) (cI cB cZ : ClassId) (sz : Nat) (r : Nat) (ri : Nat) (ro : Nat) (rc : Nat) (rp : Nat) (rs : Nat) (rd : Nat) (rk : Nat) (rh : Nat) (iL : Int) (go : Int) (oL : Int) (o : Nat) (bP : Int) (bR : Int) (xo : Nat → Int) : Met l y_Mod_beginOut (.code y_Mod_beginOut b_Mod_beginOut 2 none :: zT) rm_M_beginOut (zPc D classes (TY cI cB cZ) [(r, .inr (4, [.ref ri, .int (iZ iL), .int (iZ go), .ref ro, .int (iZ oL), .ref rc, .int (iZ (o : Int)), .ref rp, .ref rs, .ref rd, .ref rk, .ref rh, .int (iZ bP), .int (iZ bR)])), (ro, .inl (cI, 6000, .inl (zA xo)))] sz [.ref r]) (zFv (S := Nat → Int) D classes (fun u => mO 0 0 u) (fun u => [(r, .inr (4, [.ref ri, .int (iZ iL), .int (iZ go), .ref ro, .int (iZ oL), .ref rc, .int (iZ (o : Int)), .ref rp, .ref rs, .ref rd, .ref rk, .ref rh, .int (iZ 0), .int (iZ bR)])), (ro, .inl (cI, 6000, .inl (zA u)))]) (va_A [(r, .inr (4, [.ref ri, .int (iZ iL), .int (iZ go), .ref ro, .int (iZ oL), .ref rc, .int (iZ (o : Int)), .ref rp, .ref rs, .ref rd, .ref rk, .ref rh, .int (iZ bP), .int (iZ bR)])), (ro, .inl (cI, 6000, .inl (zA xo)))] sz)) 0 0 (va_A [(r, .inr (4, [.ref ri, .int (iZ iL), .int (iZ go), .ref ro, .int (iZ oL), .ref rc, .int (iZ (o : Int)), .ref rp, .ref rs, .ref rd, .ref rk, .ref rh, .int (iZ bP), .int (iZ bR)])), (ro, .inl (cI, 6000, .inl (zA xo)))] sz) := by
  refine z_ofv (by decide) (Nat.le_of_ble_eq_true rfl) rfl ?_
  intro p e s m args below meth c A Q E jmn jA jK jret H locs jP jD jS ls jl
  obtain ⟨jx, jb, jrt, jml, jown, jts, jlk⟩ := E
  have jown : s.vm.findClass R_Mod = some m.cls := jown
  have jl : lv_has ls 2 [(0, .ref r)] := jl
  refine lv_iconst (v := iZ 0) jx jb d_Mod_beginOut_0 rfl ?_
  refine lv_istore_n (lv' := [(1, .int (iZ 0)), (0, .ref r)]) jx jb d_Mod_beginOut_1 rfl jl (by decide) rfl (fun ls jl => ?_)
  have hloop2 : ∀ (nF : Nat) (i : Nat) (x2 : Nat → Int), 6000 - i < nF → (i ≤ 6000) → (∀ k, k < i → x2 k = 0) → ∀ (H : Heap) (locs : List Loc), va_P D classes [(r, .inr (4, [.ref ri, .int (iZ iL), .int (iZ go), .ref ro, .int (iZ oL), .ref rc, .int (iZ (o : Int)), .ref rp, .ref rs, .ref rd, .ref rk, .ref rh, .int (iZ bP), .int (iZ bR)])), (ro, .inl (cI, 6000, .inl (zA x2)))] H → va_D A [(r, .inr (4, [.ref ri, .int (iZ iL), .int (iZ go), .ref ro, .int (iZ oL), .ref rc, .int (iZ (o : Int)), .ref rp, .ref rs, .ref rd, .ref rk, .ref rh, .int (iZ bP), .int (iZ bR)])), (ro, .inl (cI, 6000, .inl (zA x2)))] → va_S A s.heap H locs → ∀ ls : Array Slot, lv_has ls 2 [(0, .ref r), (1, .int (iZ (i : Int)))] → W p l e rm_M_beginOut s m args below meth c H locs 0 0 Q (F0 m 2 ls []) := by
    intro nF
    induction nF with
    | zero => intro i x2 hm; exact absurd hm (Nat.not_lt_zero _)
    | succ nF ih2 =>
      intro i x2 hm hi hx2 H locs jP jD jS ls jl
      refine lv_iload_n jx jb d_Mod_beginOut_2 rfl (lv_at jl 1 rfl) ?_
      refine lv_sipush (v := iZ 6000) jx jb d_Mod_beginOut_3 (by decide) ?_
      refine z_icmp_ge (tgt := 22) jx jb d_Mod_beginOut_6 (by decide) ⟨⟨by omega, by omega⟩, ⟨by decide, by decide⟩⟩ (fun hc6 => ?_) (fun hc6 => ?_)
      ·
        refine lv_aload_n jx jb d_Mod_beginOut_22 rfl (lv_at jl 0 rfl) ?_
        refine lv_iconst (v := iZ 0) jx jb d_Mod_beginOut_23 rfl ?_
        refine va_put (D := D) (ci := 4) (v := .int (iZ 0)) (ty := .int) (C := R_Mod) (T := F_Mod) (N := 14) jx jb jts i_Mod t_Mod t_Mod_ok n_Mod jown jK.1 jP jD jS 0 rfl rfl 12 (by decide) (jts _ fl_Mod_77) (fun _ h9 => h9) rfl (by decide +kernel) rfl rfl (Nat.le_of_ble_eq_true rfl) d_Mod_beginOut_24 (fun H locs jP jD jS => ?_)
        have jP : va_P D classes [(r, .inr (4, [.ref ri, .int (iZ iL), .int (iZ go), .ref ro, .int (iZ oL), .ref rc, .int (iZ (o : Int)), .ref rp, .ref rs, .ref rd, .ref rk, .ref rh, .int (iZ 0), .int (iZ bR)])), (ro, .inl (cI, 6000, .inl (zA x2)))] H := jP
        have jD : va_D A [(r, .inr (4, [.ref ri, .int (iZ iL), .int (iZ go), .ref ro, .int (iZ oL), .ref rc, .int (iZ (o : Int)), .ref rp, .ref rs, .ref rd, .ref rk, .ref rh, .int (iZ 0), .int (iZ bR)])), (ro, .inl (cI, 6000, .inl (zA x2)))] := jD
        exact jret _ _ (x2) _ _ (mO_begin (fun k h => hx2 k (by omega))) (jP.sub [0, 1] rfl) (jD.sub [0, 1] (by decide) rfl) jS d_Mod_beginOut_27
      ·
        refine lv_aload_n jx jb d_Mod_beginOut_9 rfl (lv_at jl 0 rfl) ?_
        refine va_get (D := D) (ci := 4) (v := .ref ro) (C := R_Mod) (T := F_Mod) (N := 14) jx jb jts i_Mod jown jK.1 jP 0 rfl rfl 3 (by decide) (jts _ fl_Mod_13) (fun _ h9 => h9) rfl d_Mod_beginOut_10 ?_
        refine lv_iload_n jx jb d_Mod_beginOut_13 rfl (lv_at jl 1 rfl) ?_
        refine lv_iconst (v := iZ 0) jx jb d_Mod_beginOut_14 rfl ?_
        refine z_iast jx jb jK.1 jP jD jS 1 0 rfl rfl i (by omega) d_Mod_beginOut_15 (fun H locs jP jD jS => ?_)
        have jP : va_P D classes [(r, .inr (4, [.ref ri, .int (iZ iL), .int (iZ go), .ref ro, .int (iZ oL), .ref rc, .int (iZ (o : Int)), .ref rp, .ref rs, .ref rd, .ref rk, .ref rh, .int (iZ bP), .int (iZ bR)])), (ro, .inl (cI, 6000, .inl (zA (zu x2 i 0))))] H := jP
        have jD : va_D A [(r, .inr (4, [.ref ri, .int (iZ iL), .int (iZ go), .ref ro, .int (iZ oL), .ref rc, .int (iZ (o : Int)), .ref rp, .ref rs, .ref rd, .ref rk, .ref rh, .int (iZ bP), .int (iZ bR)])), (ro, .inl (cI, 6000, .inl (zA (zu x2 i 0))))] := jD
        refine lv_iinc (v := iZ ((i : Int) + 1)) (lv' := [(1, .int (iZ ((i : Int) + 1))), (0, .ref r)]) jx jb d_Mod_beginOut_16 jl (k := 1) rfl (iZ_add _ _) (by decide) rfl (fun ls jl => ?_)
        refine lv_goto (tgt := 2) jx jb d_Mod_beginOut_19 (by decide) ?_
        exact ih2 (i + 1) (zu x2 i 0) (by omega) (by first | assumption | omega) (zu_all (v := fun _ => 0) hx2 rfl) _ _ (jP.sub [0, 1] rfl) (jD.sub [0, 1] (by decide) rfl) jS _ (lv_sub jl [1, 0] rfl)
  exact hloop2 ((6000 - 0) + 1) 0 xo (Nat.lt_succ_self _) (by first | assumption | omega) (fun k h => absurd h (by omega)) _ _ (jP.sub [0, 1] rfl) (jD.sub [0, 1] (by decide) rfl) jS _ (lv_sub jl [1, 0] rfl)
abbrev rm_M_endOut : Room := { frames := 0, cells := 0, slots := 0, locals := 0 }
set_option maxHeartbeats 4000000 in
set_option maxRecDepth 100000 in
theorem c_M_endOut (l : Launch) (D : va_G) (cI cB cZ : ClassId) (sz : Nat) (r : Nat) (ri : Nat) (ro : Nat) (rc : Nat) (rp : Nat) (rs : Nat) (rd : Nat) (rk : Nat) (rh : Nat) (iL : Int) (go : Int) (oL : Int) (o : Nat) (bP : Int) (bR : Int) (hbP : 0 ≤ bP ∧ bP ≤ 48000) : Met l y_Mod_endOut (.code y_Mod_endOut b_Mod_endOut 1 (some .int) :: zT) rm_M_endOut (zPc D classes (TY cI cB cZ) [(r, .inr (4, [.ref ri, .int (iZ iL), .int (iZ go), .ref ro, .int (iZ oL), .ref rc, .int (iZ (o : Int)), .ref rp, .ref rs, .ref rd, .ref rk, .ref rh, .int (iZ bP), .int (iZ bR)]))] sz [.ref r]) (zFi (S := Unit) D classes (fun z _u => z = (bP + 7) / 8) (fun _u => [(r, .inr (4, [.ref ri, .int (iZ iL), .int (iZ go), .ref ro, .int (iZ ((bP + 7) / 8)), .ref rc, .int (iZ (o : Int)), .ref rp, .ref rs, .ref rd, .ref rk, .ref rh, .int (iZ bP), .int (iZ bR)]))]) (va_A [(r, .inr (4, [.ref ri, .int (iZ iL), .int (iZ go), .ref ro, .int (iZ oL), .ref rc, .int (iZ (o : Int)), .ref rp, .ref rs, .ref rd, .ref rk, .ref rh, .int (iZ bP), .int (iZ bR)]))] sz)) 0 0 (va_A [(r, .inr (4, [.ref ri, .int (iZ iL), .int (iZ go), .ref ro, .int (iZ oL), .ref rc, .int (iZ (o : Int)), .ref rp, .ref rs, .ref rd, .ref rk, .ref rh, .int (iZ bP), .int (iZ bR)]))] sz) := by
  refine z_ofi (by decide) (Nat.le_of_ble_eq_true rfl) (Or.inl rfl) ?_
  intro p e s m args below meth c A Q E jA jK jret H locs jP jD jS ls jl
  obtain ⟨jx, jb, jrt, jml, jown, jts, jlk⟩ := E
  have jown : s.vm.findClass R_Mod = some m.cls := jown
  have jl : lv_has ls 1 [(0, .ref r)] := jl
  refine lv_aload_n jx jb d_Mod_endOut_0 rfl (lv_at jl 0 rfl) ?_
  refine lv_aload_n jx jb d_Mod_endOut_1 rfl (lv_at jl 0 rfl) ?_
  refine va_get (D := D) (ci := 4) (v := .int (iZ bP)) (C := R_Mod) (T := F_Mod) (N := 14) jx jb jts i_Mod jown jK.1 jP 0 rfl rfl 12 (by decide) (jts _ fl_Mod_77) (fun _ h9 => h9) rfl d_Mod_endOut_2 ?_
  refine lv_bipush (v := iZ 7) jx jb d_Mod_endOut_5 (by decide) ?_
  refine z_iadd jx jb d_Mod_endOut_7 ?_
  refine lv_bipush (v := iZ 8) jx jb d_Mod_endOut_8 (by decide) ?_
  refine z_idiv jx jb d_Mod_endOut_10 (by omega) ?_
  refine va_put (D := D) (ci := 4) (v := .int (iZ ((bP + 7) / 8))) (ty := .int) (C := R_Mod) (T := F_Mod) (N := 14) jx jb jts i_Mod t_Mod t_Mod_ok n_Mod jown jK.1 jP jD jS 0 rfl rfl 4 (by decide) (jts _ fl_Mod_39) (fun _ h9 => h9) rfl (by decide +kernel) rfl rfl (Nat.le_of_ble_eq_true rfl) d_Mod_endOut_11 (fun H locs jP jD jS => ?_)
  have jP : va_P D classes [(r, .inr (4, [.ref ri, .int (iZ iL), .int (iZ go), .ref ro, .int (iZ ((bP + 7) / 8)), .ref rc, .int (iZ (o : Int)), .ref rp, .ref rs, .ref rd, .ref rk, .ref rh, .int (iZ bP), .int (iZ bR)]))] H := jP
  have jD : va_D A [(r, .inr (4, [.ref ri, .int (iZ iL), .int (iZ go), .ref ro, .int (iZ ((bP + 7) / 8)), .ref rc, .int (iZ (o : Int)), .ref rp, .ref rs, .ref rd, .ref rk, .ref rh, .int (iZ bP), .int (iZ bR)]))] := jD
  refine lv_aload_n jx jb d_Mod_endOut_14 rfl (lv_at jl 0 rfl) ?_
  refine va_get (D := D) (ci := 4) (v := .int (iZ ((bP + 7) / 8))) (C := R_Mod) (T := F_Mod) (N := 14) jx jb jts i_Mod jown jK.1 jP 0 rfl rfl 4 (by decide) (jts _ fl_Mod_39) (fun _ h9 => h9) rfl d_Mod_endOut_15 ?_
  exact jret _ _ _ () _ _ (Or.inl rfl) (rfl) (jP.sub [0] rfl) (jD.sub [0] (by decide) rfl) jS d_Mod_endOut_18
abbrev rm_M_put : Room := { frames := 0, cells := 0, slots := 0, locals := 0 }
set_option maxHeartbeats 4000000 in
set_option maxRecDepth 100000 in
theorem c_M_put (l : Launch) (D : va_G) (cI cB cZ : ClassId) (sz : Nat) (r : Nat) (ri : Nat) (ro : Nat) (rc : Nat) (rp : Nat) (rs : Nat) (rd : Nat) (rk : Nat) (rh : Nat) (iL : Int) (go : Int) (oL : Int) (o : Nat) (bR : Int) (xo : Nat → Int) (V : Nat) (B : Nat) (x : Nat) (n : Nat) (hO : mO V B xo) (hxn : x < 2 ^ n) (hn13 : n ≤ 13) (hB : B + n ≤ 48000) : Met l y_Mod_put (.code y_Mod_put b_Mod_put 4 none :: zT) rm_M_put (zPc D classes (TY cI cB cZ) [(r, .inr (4, [.ref ri, .int (iZ iL), .int (iZ go), .ref ro, .int (iZ oL), .ref rc, .int (iZ (o : Int)), .ref rp, .ref rs, .ref rd, .ref rk, .ref rh, .int (iZ (B : Int)), .int (iZ bR)])), (ro, .inl (cI, 6000, .inl (zA xo)))] sz [.ref r, .int (iZ (x : Int)), .int (iZ (n : Int))]) (zFv (S := Nat → Int) D classes (fun u => mO (V + x * 2 ^ B) (B + n) u) (fun u => [(r, .inr (4, [.ref ri, .int (iZ iL), .int (iZ go), .ref ro, .int (iZ oL), .ref rc, .int (iZ (o : Int)), .ref rp, .ref rs, .ref rd, .ref rk, .ref rh, .int (iZ ((B + n : Nat) : Int)), .int (iZ bR)])), (ro, .inl (cI, 6000, .inl (zA u)))]) (va_A [(r, .inr (4, [.ref ri, .int (iZ iL), .int (iZ go), .ref ro, .int (iZ oL), .ref rc, .int (iZ (o : Int)), .ref rp, .ref rs, .ref rd, .ref rk, .ref rh, .int (iZ (B : Int)), .int (iZ bR)])), (ro, .inl (cI, 6000, .inl (zA xo)))] sz)) 0 0 (va_A [(r, .inr (4, [.ref ri, .int (iZ iL), .int (iZ go), .ref ro, .int (iZ oL), .ref rc, .int (iZ (o : Int)), .ref rp, .ref rs, .ref rd, .ref rk, .ref rh, .int (iZ (B : Int)), .int (iZ bR)])), (ro, .inl (cI, 6000, .inl (zA xo)))] sz) := by
  refine z_ofv (by decide) (Nat.le_of_ble_eq_true rfl) rfl ?_
  intro p e s m args below meth c A Q E jmn jA jK jret H locs jP jD jS ls jl
  obtain ⟨jx, jb, jrt, jml, jown, jts, jlk⟩ := E
  have jown : s.vm.findClass R_Mod = some m.cls := jown
  have hx13 : x < 2 ^ 13 := Nat.lt_of_lt_of_le hxn (Nat.pow_le_pow_right (by decide) hn13)
  have jl : lv_has ls 4 [(0, .ref r), (1, .int (iZ (x : Int))), (2, .int (iZ (n : Int)))] := jl
  refine lv_iconst (v := iZ 0) jx jb d_Mod_put_0 rfl ?_
  refine lv_istore_n (lv' := [(3, .int (iZ 0)), (0, .ref r), (1, .int (iZ (x : Int))), (2, .int (iZ (n : Int)))]) jx jb d_Mod_put_1 rfl jl (by decide) rfl (fun ls jl => ?_)
  have hloop2 : ∀ (nF : Nat) (j : Nat) (x2 : Nat → Int), n - j < nF → (j ≤ n) → (mO (V + x % 2 ^ j * 2 ^ B) (B + j) x2) → ∀ (H : Heap) (locs : List Loc), va_P D classes [(r, .inr (4, [.ref ri, .int (iZ iL), .int (iZ go), .ref ro, .int (iZ oL), .ref rc, .int (iZ (o : Int)), .ref rp, .ref rs, .ref rd, .ref rk, .ref rh, .int (iZ ((B + j : Nat) : Int)), .int (iZ bR)])), (ro, .inl (cI, 6000, .inl (zA x2)))] H → va_D A [(r, .inr (4, [.ref ri, .int (iZ iL), .int (iZ go), .ref ro, .int (iZ oL), .ref rc, .int (iZ (o : Int)), .ref rp, .ref rs, .ref rd, .ref rk, .ref rh, .int (iZ ((B + j : Nat) : Int)), .int (iZ bR)])), (ro, .inl (cI, 6000, .inl (zA x2)))] → va_S A s.heap H locs → ∀ ls : Array Slot, lv_has ls 4 [(0, .ref r), (1, .int (iZ (x : Int))), (2, .int (iZ (n : Int))), (3, .int (iZ (j : Int)))] → W p l e rm_M_put s m args below meth c H locs 0 0 Q (F0 m 2 ls []) := by
    intro nF
    induction nF with
    | zero => intro j x2 hm; exact absurd hm (Nat.not_lt_zero _)
    | succ nF ih2 =>
      intro j x2 hm hj h2 H locs jP jD jS ls jl
      refine lv_iload_n jx jb d_Mod_put_2 rfl (lv_at jl 3 rfl) ?_
      refine lv_iload_n jx jb d_Mod_put_3 rfl (lv_at jl 2 rfl) ?_
      refine z_icmp_ge (tgt := 51) jx jb d_Mod_put_4 (by decide) ⟨⟨by omega, by omega⟩, ⟨by omega, by omega⟩⟩ (fun hc4 => ?_) (fun hc4 => ?_)
      ·
        obtain rfl : j = n := by omega
        exact jret _ _ (x2) _ _ (mO_e h2 hxn) (jP.sub [0, 1] rfl) (jD.sub [0, 1] (by decide) rfl) jS d_Mod_put_51
      ·
        refine lv_aload_n jx jb d_Mod_put_7 rfl (lv_at jl 0 rfl) ?_
        refine va_get (D := D) (ci := 4) (v := .ref ro) (C := R_Mod) (T := F_Mod) (N := 14) jx jb jts i_Mod jown jK.1 jP 0 rfl rfl 3 (by decide) (jts _ fl_Mod_13) (fun _ h9 => h9) rfl d_Mod_put_8 ?_
        refine lv_aload_n jx jb d_Mod_put_11 rfl (lv_at jl 0 rfl) ?_
        refine va_get (D := D) (ci := 4) (v := .int (iZ ((B + j : Nat) : Int))) (C := R_Mod) (T := F_Mod) (N := 14) jx jb jts i_Mod jown jK.1 jP 0 rfl rfl 12 (by decide) (jts _ fl_Mod_77) (fun _ h9 => h9) rfl d_Mod_put_12 ?_
        refine lv_bipush (v := iZ 8) jx jb d_Mod_put_15 (by decide) ?_
        refine z_idiv jx jb d_Mod_put_17 (by omega) ?_
        refine lv_dup2_11 jx jb d_Mod_put_18 rfl rfl ?_
        refine z_iald jx jb jK.1 jP 1 0 rfl rfl ((B + j) / 8) (by omega) d_Mod_put_19 ?_
        refine lv_iload_n jx jb d_Mod_put_20 rfl (lv_at jl 1 rfl) ?_
        refine lv_iload_n jx jb d_Mod_put_21 rfl (lv_at jl 3 rfl) ?_
        refine z_ishr jx jb d_Mod_put_22 j (2 ^ j) (rfl) (by omega) ?_
        refine lv_iconst (v := iZ 1) jx jb d_Mod_put_23 rfl ?_
        refine z_iand jx jb d_Mod_put_24 1 2 (rfl) (rfl) (by decide) ?_
        refine lv_aload_n jx jb d_Mod_put_25 rfl (lv_at jl 0 rfl) ?_
        refine va_get (D := D) (ci := 4) (v := .int (iZ ((B + j : Nat) : Int))) (C := R_Mod) (T := F_Mod) (N := 14) jx jb jts i_Mod jown jK.1 jP 0 rfl rfl 12 (by decide) (jts _ fl_Mod_77) (fun _ h9 => h9) rfl d_Mod_put_26 ?_
        refine lv_bipush (v := iZ 8) jx jb d_Mod_put_29 (by decide) ?_
        refine z_irem jx jb d_Mod_put_31 (by omega) ?_
        refine z_ishl jx jb d_Mod_put_32 ((B + j) % 8) (2 ^ ((B + j) % 8)) (rfl) (by omega) ?_
        refine z_iadd jx jb d_Mod_put_33 ?_
        refine z_iast jx jb jK.1 jP jD jS 1 0 rfl rfl ((B + j) / 8) (by omega) d_Mod_put_34 (fun H locs jP jD jS => ?_)
        have jP : va_P D classes [(r, .inr (4, [.ref ri, .int (iZ iL), .int (iZ go), .ref ro, .int (iZ oL), .ref rc, .int (iZ (o : Int)), .ref rp, .ref rs, .ref rd, .ref rk, .ref rh, .int (iZ ((B + j : Nat) : Int)), .int (iZ bR)])), (ro, .inl (cI, 6000, .inl (zA (zu x2 ((B + j) / 8) ((x2 ((B + j) / 8)) + ((((x : Int) / (2 ^ j)) % 2) * (2 ^ ((B + j) % 8))))))))] H := jP
        have jD : va_D A [(r, .inr (4, [.ref ri, .int (iZ iL), .int (iZ go), .ref ro, .int (iZ oL), .ref rc, .int (iZ (o : Int)), .ref rp, .ref rs, .ref rd, .ref rk, .ref rh, .int (iZ ((B + j : Nat) : Int)), .int (iZ bR)])), (ro, .inl (cI, 6000, .inl (zA (zu x2 ((B + j) / 8) ((x2 ((B + j) / 8)) + ((((x : Int) / (2 ^ j)) % 2) * (2 ^ ((B + j) % 8))))))))] := jD
        refine lv_aload_n jx jb d_Mod_put_35 rfl (lv_at jl 0 rfl) ?_
        refine lv_dup jx jb d_Mod_put_36 rfl ?_
        refine va_get (D := D) (ci := 4) (v := .int (iZ ((B + j : Nat) : Int))) (C := R_Mod) (T := F_Mod) (N := 14) jx jb jts i_Mod jown jK.1 jP 0 rfl rfl 12 (by decide) (jts _ fl_Mod_77) (fun _ h9 => h9) rfl d_Mod_put_37 ?_
        refine lv_iconst (v := iZ 1) jx jb d_Mod_put_40 rfl ?_
        refine z_iadd jx jb d_Mod_put_41 ?_
        refine va_put (D := D) (ci := 4) (v := .int (iZ (((B + j : Nat) : Int) + 1))) (ty := .int) (C := R_Mod) (T := F_Mod) (N := 14) jx jb jts i_Mod t_Mod t_Mod_ok n_Mod jown jK.1 jP jD jS 0 rfl rfl 12 (by decide) (jts _ fl_Mod_77) (fun _ h9 => h9) rfl (by decide +kernel) rfl rfl (Nat.le_of_ble_eq_true rfl) d_Mod_put_42 (fun H locs jP jD jS => ?_)
        have jP : va_P D classes [(r, .inr (4, [.ref ri, .int (iZ iL), .int (iZ go), .ref ro, .int (iZ oL), .ref rc, .int (iZ (o : Int)), .ref rp, .ref rs, .ref rd, .ref rk, .ref rh, .int (iZ (((B + j : Nat) : Int) + 1)), .int (iZ bR)])), (ro, .inl (cI, 6000, .inl (zA (zu x2 ((B + j) / 8) ((x2 ((B + j) / 8)) + ((((x : Int) / (2 ^ j)) % 2) * (2 ^ ((B + j) % 8))))))))] H := jP
        have jD : va_D A [(r, .inr (4, [.ref ri, .int (iZ iL), .int (iZ go), .ref ro, .int (iZ oL), .ref rc, .int (iZ (o : Int)), .ref rp, .ref rs, .ref rd, .ref rk, .ref rh, .int (iZ (((B + j : Nat) : Int) + 1)), .int (iZ bR)])), (ro, .inl (cI, 6000, .inl (zA (zu x2 ((B + j) / 8) ((x2 ((B + j) / 8)) + ((((x : Int) / (2 ^ j)) % 2) * (2 ^ ((B + j) % 8))))))))] := jD
        refine lv_iinc (v := iZ ((j : Int) + 1)) (lv' := [(3, .int (iZ ((j : Int) + 1))), (0, .ref r), (1, .int (iZ (x : Int))), (2, .int (iZ (n : Int)))]) jx jb d_Mod_put_45 jl (k := 3) rfl (iZ_add _ _) (by decide) rfl (fun ls jl => ?_)
        refine lv_goto (tgt := 2) jx jb d_Mod_put_48 (by decide) ?_
        exact ih2 (j + 1) (zu x2 ((B + j) / 8) ((x2 ((B + j) / 8)) + ((((x : Int) / (2 ^ j)) % 2) * (2 ^ ((B + j) % 8))))) (by omega) (by first | assumption | omega) (mO_step h2 (by omega)) _ _ (jP.sub [0, 1] rfl) (jD.sub [0, 1] (by decide) rfl) jS _ (lv_sub jl [1, 2, 3, 0] rfl)
  exact hloop2 ((n - 0) + 1) 0 xo (Nat.lt_succ_self _) (by first | assumption | omega) (mO_0 hO) _ _ (jP.sub [0, 1] rfl) (jD.sub [0, 1] (by decide) rfl) jS _ (lv_sub jl [1, 2, 3, 0] rfl)
abbrev rm_M_putNumber : Room := { frames := 1, cells := 0, slots := 0, locals := 23 }
set_option maxHeartbeats 4000000 in
set_option maxRecDepth 100000 in
theorem c_M_putNumber (l : Launch) (D : va_G) (cI cB cZ : ClassId) (sz : Nat) (r : Nat) (ri : Nat) (ro : Nat) (rc : Nat) (rp : Nat) (rs : Nat) (rd : Nat) (rk : Nat) (rh : Nat) (iL : Int) (go : Int) (oL : Int) (o : Nat) (bR : Int) (xo : Nat → Int) (V : Nat) (B : Nat) (v : Nat) (R1 : Int) (hO : mO V B xo) (hR : 1 ≤ R1 ∧ R1 ≤ 4096) (hv : (v : Int) ≤ R1 + 1) (hB : B + 13 ≤ 48000) : Met l y_Mod_putNumber (.code y_Mod_putNumber b_Mod_putNumber 6 none :: zT) rm_M_putNumber (zPc D classes (TY cI cB cZ) [(r, .inr (4, [.ref ri, .int (iZ iL), .int (iZ go), .ref ro, .int (iZ oL), .ref rc, .int (iZ (o : Int)), .ref rp, .ref rs, .ref rd, .ref rk, .ref rh, .int (iZ (B : Int)), .int (iZ bR)])), (ro, .inl (cI, 6000, .inl (zA xo)))] sz [.ref r, .int (iZ (v : Int)), .int (iZ R1)]) (zFv (S := Nat → Int) D classes (fun u => mO (V + numX R1 v * 2 ^ B) (B + numN R1 v) u) (fun u => [(r, .inr (4, [.ref ri, .int (iZ iL), .int (iZ go), .ref ro, .int (iZ oL), .ref rc, .int (iZ (o : Int)), .ref rp, .ref rs, .ref rd, .ref rk, .ref rh, .int (iZ ((B + numN R1 v : Nat) : Int)), .int (iZ bR)])), (ro, .inl (cI, 6000, .inl (zA u)))]) (va_A [(r, .inr (4, [.ref ri, .int (iZ iL), .int (iZ go), .ref ro, .int (iZ oL), .ref rc, .int (iZ (o : Int)), .ref rp, .ref rs, .ref rd, .ref rk, .ref rh, .int (iZ (B : Int)), .int (iZ bR)])), (ro, .inl (cI, 6000, .inl (zA xo)))] sz)) 0 0 (va_A [(r, .inr (4, [.ref ri, .int (iZ iL), .int (iZ go), .ref ro, .int (iZ oL), .ref rc, .int (iZ (o : Int)), .ref rp, .ref rs, .ref rd, .ref rk, .ref rh, .int (iZ (B : Int)), .int (iZ bR)])), (ro, .inl (cI, 6000, .inl (zA xo)))] sz) := by
  refine z_ofv (by decide) (Nat.le_of_ble_eq_true rfl) rfl ?_
  intro p e s m args below meth c A Q E jmn jA jK jret H locs jP jD jS ls jl
  obtain ⟨jx, jb, jrt, jml, jown, jts, jlk⟩ := E
  have jown : s.vm.findClass R_Mod = some m.cls := jown
  have hf := num_facts hR.1 hR.2
  have hkk := numK_le hR.1 hR.2
  have hnm : numM R1 = 2 * numT R1 - 2 - R1 := rfl
  have jl : lv_has ls 6 [(0, .ref r), (1, .int (iZ (v : Int))), (2, .int (iZ R1))] := jl
  refine lv_iload_n jx jb d_Mod_putNumber_0 rfl (lv_at jl 2 rfl) ?_
  refine z_backe (va_runS (As := [.int (iZ R1)]) (rest := []) ⟨jx, jb, jml, jown, jts⟩ (c_M_bitsFor l D cI cB cZ R1 (by first | assumption | omega)) (zc_S 1 jts cd_Mod_bitsFor lk_Mod_80 st_Mod_bitsFor in_Mod hd_Mod_bitsFor ⟨Nat.le_of_ble_eq_true rfl, Nat.le_of_ble_eq_true rfl⟩ rfl rfl) (z_preSR jK jP [] rfl) rfl rfl jl.1 rfl (lv_room (Nat.le_of_ble_eq_true rfl)) d_Mod_putNumber_1 ⟨Nat.le_of_ble_eq_true rfl, Nat.le_of_ble_eq_true rfl⟩) ?_
  refine lv_istore_n (lv' := [(3, .int (iZ (numK R1 : Int))), (0, .ref r), (1, .int (iZ (v : Int))), (2, .int (iZ R1))]) jx jb d_Mod_putNumber_4 rfl jl (by decide) rfl (fun ls jl => ?_)
  refine lv_iconst (v := iZ 1) jx jb d_Mod_putNumber_5 rfl ?_
  refine lv_iload_n jx jb d_Mod_putNumber_6 rfl (lv_at jl 0 rfl) ?_
  refine z_ishl jx jb d_Mod_putNumber_7 (numK R1) (2 ^ (numK R1)) (rfl) (by omega) ?_
  refine z_top (numT R1) (Int.one_mul _) ?_
  refine lv_istore (lv' := [(4, .int (iZ (numT R1))), (3, .int (iZ (numK R1 : Int))), (0, .ref r), (1, .int (iZ (v : Int))), (2, .int (iZ R1))]) jx jb d_Mod_putNumber_8 jl (by decide) rfl (fun ls jl => ?_)
  refine lv_iconst (v := iZ 2) jx jb d_Mod_putNumber_10 rfl ?_
  refine lv_iload jx jb d_Mod_putNumber_11 (lv_at jl 0 rfl) ?_
  refine z_imul jx jb d_Mod_putNumber_13 ?_
  refine lv_iconst (v := iZ 2) jx jb d_Mod_putNumber_14 rfl ?_
  refine z_isub jx jb d_Mod_putNumber_15 ?_
  refine lv_iload_n jx jb d_Mod_putNumber_16 rfl (lv_at jl 4 rfl) ?_
  refine z_isub jx jb d_Mod_putNumber_17 ?_
  refine z_top (numM R1) (rfl) ?_
  refine lv_istore (lv' := [(5, .int (iZ (numM R1))), (4, .int (iZ (numT R1))), (3, .int (iZ (numK R1 : Int))), (0, .ref r), (1, .int (iZ (v : Int))), (2, .int (iZ R1))]) jx jb d_Mod_putNumber_18 jl (by decide) rfl (fun ls jl => ?_)
  refine lv_iload_n jx jb d_Mod_putNumber_20 rfl (lv_at jl 4 rfl) ?_
  refine lv_iload jx jb d_Mod_putNumber_21 (lv_at jl 0 rfl) ?_
  refine z_icmp_ge (tgt := 35) jx jb d_Mod_putNumber_23 (by decide) ⟨⟨by omega, by omega⟩, ⟨by omega, by omega⟩⟩ (fun hc23 => ?_) (fun hc23 => ?_)
  ·
    refine lv_aload_n jx jb d_Mod_putNumber_35 rfl (lv_at jl 3 rfl) ?_
    refine lv_iload_n jx jb d_Mod_putNumber_36 rfl (lv_at jl 4 rfl) ?_
    refine lv_iload jx jb d_Mod_putNumber_37 (lv_at jl 1 rfl) ?_
    refine z_icmp_ge (tgt := 46) jx jb d_Mod_putNumber_39 (by decide) ⟨⟨by omega, by omega⟩, ⟨by omega, by omega⟩⟩ (fun hc39 => ?_) (fun hc39 => ?_)
    ·
      refine lv_iload_n jx jb d_Mod_putNumber_46 rfl (lv_at jl 4 rfl) ?_
      refine lv_iload jx jb d_Mod_putNumber_47 (lv_at jl 0 rfl) ?_
      refine z_iadd jx jb d_Mod_putNumber_49 ?_
      refine z_top ((v + (numM R1).toNat : Nat) : Int) (by omega) ?_
      refine lv_iload_n jx jb d_Mod_putNumber_50 rfl (lv_at jl 2 rfl) ?_
      refine lv_iconst (v := iZ 1) jx jb d_Mod_putNumber_51 rfl ?_
      refine z_iadd jx jb d_Mod_putNumber_52 ?_
      refine z_backv (wr := []) jP jD jS jA [0, 1] [] rfl rfl (by decide) (by decide) (va_runV (As := [.int (iZ ((v + (numM R1).toNat : Nat) : Int)), .int (iZ ((numK R1 : Int) + 1))]) (rest := []) ⟨jx, jb, jml, jown, jts⟩ (c_M_put l D cI cB cZ H.size r ri ro rc rp rs rd rk rh iL go oL o bR xo V B (v + (numM R1).toNat : Nat) (numK R1 + 1) (by first | assumption | omega) (by first | exact num_x2 hR.1 hR.2 (by omega) | exact num_x3 hR.1 hR.2 (by omega)) (by omega) (by omega)) (zc_V 2 jts cd_Mod_put lk_Mod_83 im_Mod_put se_Mod_put in_Mod hd_Mod_put ⟨Nat.le_of_ble_eq_true rfl, Nat.le_of_ble_eq_true rfl⟩ rfl rfl) (z_preV jK jP jD [0, 1] (by decide) rfl rfl rfl rfl) rfl rfl jl.1 rfl (lv_room (Nat.le_of_ble_eq_true rfl)) d_Mod_putNumber_53 ⟨Nat.le_of_ble_eq_true rfl, Nat.le_of_ble_eq_true rfl⟩) (fun u53 H locs hu53 jP jD jS => ?_)
      obtain ⟨xo1_53, rfl⟩ : ∃ z, z = u53 := ⟨_, rfl⟩
      have jP : va_P D classes [(r, .inr (4, [.ref ri, .int (iZ iL), .int (iZ go), .ref ro, .int (iZ oL), .ref rc, .int (iZ (o : Int)), .ref rp, .ref rs, .ref rd, .ref rk, .ref rh, .int (iZ ((B + (numK R1 + 1) : Nat) : Int)), .int (iZ bR)])), (ro, .inl (cI, 6000, .inl (zA xo1_53)))] H := jP.sub [0, 1] rfl
      have jD : va_D A [(r, .inr (4, [.ref ri, .int (iZ iL), .int (iZ go), .ref ro, .int (iZ oL), .ref rc, .int (iZ (o : Int)), .ref rp, .ref rs, .ref rd, .ref rk, .ref rh, .int (iZ ((B + (numK R1 + 1) : Nat) : Int)), .int (iZ bR)])), (ro, .inl (cI, 6000, .inl (zA xo1_53)))] := jD.sub [0, 1] (by decide) rfl
      first | rw [← numN_1 (R := R1) (v := v) (by omega)] at jP jD | rw [← numN_2 (R := R1) (v := v) (by omega)] at jP jD
      exact jret _ _ (xo1_53) _ _ (by first | (rw [numX_1 (by omega), numN_1 (by omega)]; exact hu29) | (rw [numX_2 (by omega) (by omega), numN_2 (by omega)]; exact hu53) | (rw [numX_3 (by omega) (by omega), numN_2 (by omega)]; exact hu53)) (jP.sub [0, 1] rfl) (jD.sub [0, 1] (by decide) rfl) jS d_Mod_putNumber_56
    ·
      refine lv_iload_n jx jb d_Mod_putNumber_42 rfl (lv_at jl 4 rfl) ?_
      refine lv_goto (tgt := 50) jx jb d_Mod_putNumber_43 (by decide) ?_
      refine lv_iload_n jx jb d_Mod_putNumber_50 rfl (lv_at jl 2 rfl) ?_
      refine lv_iconst (v := iZ 1) jx jb d_Mod_putNumber_51 rfl ?_
      refine z_iadd jx jb d_Mod_putNumber_52 ?_
      refine z_backv (wr := []) jP jD jS jA [0, 1] [] rfl rfl (by decide) (by decide) (va_runV (As := [.int (iZ (v : Int)), .int (iZ ((numK R1 : Int) + 1))]) (rest := []) ⟨jx, jb, jml, jown, jts⟩ (c_M_put l D cI cB cZ H.size r ri ro rc rp rs rd rk rh iL go oL o bR xo V B v (numK R1 + 1) (by first | assumption | omega) (by first | exact num_x2 hR.1 hR.2 (by omega) | exact num_x3 hR.1 hR.2 (by omega)) (by omega) (by omega)) (zc_V 2 jts cd_Mod_put lk_Mod_83 im_Mod_put se_Mod_put in_Mod hd_Mod_put ⟨Nat.le_of_ble_eq_true rfl, Nat.le_of_ble_eq_true rfl⟩ rfl rfl) (z_preV jK jP jD [0, 1] (by decide) rfl rfl rfl rfl) rfl rfl jl.1 rfl (lv_room (Nat.le_of_ble_eq_true rfl)) d_Mod_putNumber_53 ⟨Nat.le_of_ble_eq_true rfl, Nat.le_of_ble_eq_true rfl⟩) (fun u53 H locs hu53 jP jD jS => ?_)
      obtain ⟨xo1_53, rfl⟩ : ∃ z, z = u53 := ⟨_, rfl⟩
      have jP : va_P D classes [(r, .inr (4, [.ref ri, .int (iZ iL), .int (iZ go), .ref ro, .int (iZ oL), .ref rc, .int (iZ (o : Int)), .ref rp, .ref rs, .ref rd, .ref rk, .ref rh, .int (iZ ((B + (numK R1 + 1) : Nat) : Int)), .int (iZ bR)])), (ro, .inl (cI, 6000, .inl (zA xo1_53)))] H := jP.sub [0, 1] rfl
      have jD : va_D A [(r, .inr (4, [.ref ri, .int (iZ iL), .int (iZ go), .ref ro, .int (iZ oL), .ref rc, .int (iZ (o : Int)), .ref rp, .ref rs, .ref rd, .ref rk, .ref rh, .int (iZ ((B + (numK R1 + 1) : Nat) : Int)), .int (iZ bR)])), (ro, .inl (cI, 6000, .inl (zA xo1_53)))] := jD.sub [0, 1] (by decide) rfl
      first | rw [← numN_1 (R := R1) (v := v) (by omega)] at jP jD | rw [← numN_2 (R := R1) (v := v) (by omega)] at jP jD
      exact jret _ _ (xo1_53) _ _ (by first | (rw [numX_1 (by omega), numN_1 (by omega)]; exact hu29) | (rw [numX_2 (by omega) (by omega), numN_2 (by omega)]; exact hu53) | (rw [numX_3 (by omega) (by omega), numN_2 (by omega)]; exact hu53)) (jP.sub [0, 1] rfl) (jD.sub [0, 1] (by decide) rfl) jS d_Mod_putNumber_56
  ·
    refine lv_aload_n jx jb d_Mod_putNumber_26 rfl (lv_at jl 3 rfl) ?_
    refine lv_iload_n jx jb d_Mod_putNumber_27 rfl (lv_at jl 4 rfl) ?_
    refine lv_iload_n jx jb d_Mod_putNumber_28 rfl (lv_at jl 2 rfl) ?_
    refine z_backv (wr := []) jP jD jS jA [0, 1] [] rfl rfl (by decide) (by decide) (va_runV (As := [.int (iZ (v : Int)), .int (iZ (numK R1 : Int))]) (rest := []) ⟨jx, jb, jml, jown, jts⟩ (c_M_put l D cI cB cZ H.size r ri ro rc rp rs rd rk rh iL go oL o bR xo V B v (numK R1) (by first | assumption | omega) (num_x1 hR.1 hR.2 (by omega)) (by omega) (by omega)) (zc_V 2 jts cd_Mod_put lk_Mod_83 im_Mod_put se_Mod_put in_Mod hd_Mod_put ⟨Nat.le_of_ble_eq_true rfl, Nat.le_of_ble_eq_true rfl⟩ rfl rfl) (z_preV jK jP jD [0, 1] (by decide) rfl rfl rfl rfl) rfl rfl jl.1 rfl (lv_room (Nat.le_of_ble_eq_true rfl)) d_Mod_putNumber_29 ⟨Nat.le_of_ble_eq_true rfl, Nat.le_of_ble_eq_true rfl⟩) (fun u29 H locs hu29 jP jD jS => ?_)
    obtain ⟨xo1_29, rfl⟩ : ∃ z, z = u29 := ⟨_, rfl⟩
    have jP : va_P D classes [(r, .inr (4, [.ref ri, .int (iZ iL), .int (iZ go), .ref ro, .int (iZ oL), .ref rc, .int (iZ (o : Int)), .ref rp, .ref rs, .ref rd, .ref rk, .ref rh, .int (iZ ((B + (numK R1) : Nat) : Int)), .int (iZ bR)])), (ro, .inl (cI, 6000, .inl (zA xo1_29)))] H := jP.sub [0, 1] rfl
    have jD : va_D A [(r, .inr (4, [.ref ri, .int (iZ iL), .int (iZ go), .ref ro, .int (iZ oL), .ref rc, .int (iZ (o : Int)), .ref rp, .ref rs, .ref rd, .ref rk, .ref rh, .int (iZ ((B + (numK R1) : Nat) : Int)), .int (iZ bR)])), (ro, .inl (cI, 6000, .inl (zA xo1_29)))] := jD.sub [0, 1] (by decide) rfl
    refine lv_goto (tgt := 56) jx jb d_Mod_putNumber_32 (by decide) ?_
    first | rw [← numN_1 (R := R1) (v := v) (by omega)] at jP jD | rw [← numN_2 (R := R1) (v := v) (by omega)] at jP jD
    exact jret _ _ (xo1_29) _ _ (by first | (rw [numX_1 (by omega), numN_1 (by omega)]; exact hu29) | (rw [numX_2 (by omega) (by omega), numN_2 (by omega)]; exact hu53) | (rw [numX_3 (by omega) (by omega), numN_2 (by omega)]; exact hu53)) (jP.sub [0, 1] rfl) (jD.sub [0, 1] (by decide) rfl) jS d_Mod_putNumber_56
abbrev rm_M_take : Room := { frames := 0, cells := 0, slots := 0, locals := 0 }
set_option maxHeartbeats 4000000 in
set_option maxRecDepth 100000 in
theorem c_M_take (l : Launch) (D : va_G) (cI cB cZ : ClassId) (sz : Nat) (r : Nat) (ri : Nat) (ro : Nat) (rc : Nat) (rp : Nat) (rs : Nat) (rd : Nat) (rk : Nat) (rh : Nat) (iL : Int) (go : Int) (oL : Int) (o : Nat) (bP : Int) (xi : Nat → Int) (t : Nat) (n : Nat) (hiL : 0 ≤ iL ∧ iL ≤ 6000) (hgo : 0 ≤ go ∧ go ≤ iL) (hxi : ∀ k, k < 6000 → 0 ≤ xi k ∧ xi k < 256) (ht : t ≤ 100000) (hn13 : n ≤ 13) : Met l y_Mod_take (.code y_Mod_take b_Mod_take 5 (some .int) :: zT) rm_M_take (zPc D classes (TY cI cB cZ) [(r, .inr (4, [.ref ri, .int (iZ iL), .int (iZ go), .ref ro, .int (iZ oL), .ref rc, .int (iZ (o : Int)), .ref rp, .ref rs, .ref rd, .ref rk, .ref rh, .int (iZ bP), .int (iZ (t : Int))])), (ri, .inl (cI, 6000, .inl (zA xi)))] sz [.ref r, .int (iZ (n : Int))]) (zFi (S := Int) D classes (fun z u => (z = -1 ∧ 8 * iL < 8 * go + t + n ∧ u = t) ∨ (z = nbI xi (8 * go.toNat + t) n ∧ 8 * go + t + n ≤ 8 * iL ∧ u = (t : Int) + n)) (fun u => [(r, .inr (4, [.ref ri, .int (iZ iL), .int (iZ go), .ref ro, .int (iZ oL), .ref rc, .int (iZ (o : Int)), .ref rp, .ref rs, .ref rd, .ref rk, .ref rh, .int (iZ bP), .int (iZ u)])), (ri, .inl (cI, 6000, .inl (zA xi)))]) (va_A [(r, .inr (4, [.ref ri, .int (iZ iL), .int (iZ go), .ref ro, .int (iZ oL), .ref rc, .int (iZ (o : Int)), .ref rp, .ref rs, .ref rd, .ref rk, .ref rh, .int (iZ bP), .int (iZ (t : Int))])), (ri, .inl (cI, 6000, .inl (zA xi)))] sz)) 0 0 (va_A [(r, .inr (4, [.ref ri, .int (iZ iL), .int (iZ go), .ref ro, .int (iZ oL), .ref rc, .int (iZ (o : Int)), .ref rp, .ref rs, .ref rd, .ref rk, .ref rh, .int (iZ bP), .int (iZ (t : Int))])), (ri, .inl (cI, 6000, .inl (zA xi)))] sz) := by
  refine z_ofi (by decide) (Nat.le_of_ble_eq_true rfl) (Or.inl rfl) ?_
  intro p e s m args below meth c A Q E jA jK jret H locs jP jD jS ls jl
  obtain ⟨jx, jb, jrt, jml, jown, jts, jlk⟩ := E
  have jown : s.vm.findClass R_Mod = some m.cls := jown
  have jl : lv_has ls 5 [(0, .ref r), (1, .int (iZ (n : Int)))] := jl
  refine lv_bipush (v := iZ 8) jx jb d_Mod_take_0 (by decide) ?_
  refine lv_aload_n jx jb d_Mod_take_2 rfl (lv_at jl 0 rfl) ?_
  refine va_get (D := D) (ci := 4) (v := .int (iZ go)) (C := R_Mod) (T := F_Mod) (N := 14) jx jb jts i_Mod jown jK.1 jP 0 rfl rfl 2 (by decide) (jts _ fl_Mod_42) (fun _ h9 => h9) rfl d_Mod_take_3 ?_
  refine z_imul jx jb d_Mod_take_6 ?_
  refine lv_aload_n jx jb d_Mod_take_7 rfl (lv_at jl 0 rfl) ?_
  refine va_get (D := D) (ci := 4) (v := .int (iZ (t : Int))) (C := R_Mod) (T := F_Mod) (N := 14) jx jb jts i_Mod jown jK.1 jP 0 rfl rfl 13 (by decide) (jts _ fl_Mod_96) (fun _ h9 => h9) rfl d_Mod_take_8 ?_
  refine z_iadd jx jb d_Mod_take_11 ?_
  refine lv_iload_n jx jb d_Mod_take_12 rfl (lv_at jl 1 rfl) ?_
  refine z_iadd jx jb d_Mod_take_13 ?_
  refine lv_bipush (v := iZ 8) jx jb d_Mod_take_14 (by decide) ?_
  refine lv_aload_n jx jb d_Mod_take_16 rfl (lv_at jl 0 rfl) ?_
  refine va_get (D := D) (ci := 4) (v := .int (iZ iL)) (C := R_Mod) (T := F_Mod) (N := 14) jx jb jts i_Mod jown jK.1 jP 0 rfl rfl 1 (by decide) (jts _ fl_Mod_35) (fun _ h9 => h9) rfl d_Mod_take_17 ?_
  refine z_imul jx jb d_Mod_take_20 ?_
  refine z_icmp_le (tgt := 26) jx jb d_Mod_take_21 (by decide) ⟨⟨by omega, by omega⟩, ⟨by omega, by omega⟩⟩ (fun hc21 => ?_) (fun hc21 => ?_)
  ·
    refine lv_iconst (v := iZ 0) jx jb d_Mod_take_26 rfl ?_
    refine lv_istore_n (lv' := [(2, .int (iZ 0)), (0, .ref r), (1, .int (iZ (n : Int)))]) jx jb d_Mod_take_27 rfl jl (by decide) rfl (fun ls jl => ?_)
    refine lv_iconst (v := iZ 0) jx jb d_Mod_take_28 rfl ?_
    refine lv_istore_n (lv' := [(3, .int (iZ 0)), (2, .int (iZ 0)), (0, .ref r), (1, .int (iZ (n : Int)))]) jx jb d_Mod_take_29 rfl jl (by decide) rfl (fun ls jl => ?_)
    have hloop30 : ∀ (nF : Nat) (j : Nat), n - j < nF → (j ≤ n) → ∀ (H : Heap) (locs : List Loc), va_P D classes [(r, .inr (4, [.ref ri, .int (iZ iL), .int (iZ go), .ref ro, .int (iZ oL), .ref rc, .int (iZ (o : Int)), .ref rp, .ref rs, .ref rd, .ref rk, .ref rh, .int (iZ bP), .int (iZ (t : Int))])), (ri, .inl (cI, 6000, .inl (zA xi)))] H → va_D A [(r, .inr (4, [.ref ri, .int (iZ iL), .int (iZ go), .ref ro, .int (iZ oL), .ref rc, .int (iZ (o : Int)), .ref rp, .ref rs, .ref rd, .ref rk, .ref rh, .int (iZ bP), .int (iZ (t : Int))])), (ri, .inl (cI, 6000, .inl (zA xi)))] → va_S A s.heap H locs → ∀ ls : Array Slot, lv_has ls 5 [(0, .ref r), (1, .int (iZ (n : Int))), (2, .int (iZ (nbI xi (8 * go.toNat + t) j))), (3, .int (iZ (j : Int)))] → W p l e rm_M_take s m args below meth c H locs 0 0 Q (F0 m 30 ls []) := by
      intro nF
      induction nF with
      | zero => intro j hm; exact absurd hm (Nat.not_lt_zero _)
      | succ nF ih30 =>
        intro j hm hj H locs jP jD jS ls jl
        have hnb := nbI_b xi (8 * go.toNat + t) j
        have hpj := p2_le (show j ≤ 13 by omega)
        have hp0 := p2_pos j
        refine lv_iload_n jx jb d_Mod_take_30 rfl (lv_at jl 3 rfl) ?_
        refine lv_iload_n jx jb d_Mod_take_31 rfl (lv_at jl 1 rfl) ?_
        refine z_icmp_ge (tgt := 80) jx jb d_Mod_take_32 (by decide) ⟨⟨by omega, by omega⟩, ⟨by omega, by omega⟩⟩ (fun hc32 => ?_) (fun hc32 => ?_)
        ·
          refine lv_aload_n jx jb d_Mod_take_80 rfl (lv_at jl 0 rfl) ?_
          refine lv_dup jx jb d_Mod_take_81 rfl ?_
          refine va_get (D := D) (ci := 4) (v := .int (iZ (t : Int))) (C := R_Mod) (T := F_Mod) (N := 14) jx jb jts i_Mod jown jK.1 jP 0 rfl rfl 13 (by decide) (jts _ fl_Mod_96) (fun _ h9 => h9) rfl d_Mod_take_82 ?_
          refine lv_iload_n jx jb d_Mod_take_85 rfl (lv_at jl 1 rfl) ?_
          refine z_iadd jx jb d_Mod_take_86 ?_
          refine va_put (D := D) (ci := 4) (v := .int (iZ ((t : Int) + (n : Int)))) (ty := .int) (C := R_Mod) (T := F_Mod) (N := 14) jx jb jts i_Mod t_Mod t_Mod_ok n_Mod jown jK.1 jP jD jS 0 rfl rfl 13 (by decide) (jts _ fl_Mod_96) (fun _ h9 => h9) rfl (by decide +kernel) rfl rfl (Nat.le_of_ble_eq_true rfl) d_Mod_take_87 (fun H locs jP jD jS => ?_)
          have jP : va_P D classes [(r, .inr (4, [.ref ri, .int (iZ iL), .int (iZ go), .ref ro, .int (iZ oL), .ref rc, .int (iZ (o : Int)), .ref rp, .ref rs, .ref rd, .ref rk, .ref rh, .int (iZ bP), .int (iZ ((t : Int) + (n : Int)))])), (ri, .inl (cI, 6000, .inl (zA xi)))] H := jP
          have jD : va_D A [(r, .inr (4, [.ref ri, .int (iZ iL), .int (iZ go), .ref ro, .int (iZ oL), .ref rc, .int (iZ (o : Int)), .ref rp, .ref rs, .ref rd, .ref rk, .ref rh, .int (iZ bP), .int (iZ ((t : Int) + (n : Int)))])), (ri, .inl (cI, 6000, .inl (zA xi)))] := jD
          refine lv_iload_n jx jb d_Mod_take_90 rfl (lv_at jl 2 rfl) ?_
          obtain rfl : n = j := by omega
          exact jret _ _ _ (((t : Int) + (n : Int))) _ _ (Or.inl rfl) (Or.inr ⟨rfl, by omega, rfl⟩) (jP.sub [0, 1] rfl) (jD.sub [0, 1] (by decide) rfl) jS d_Mod_take_91
        ·
          refine lv_bipush (v := iZ 8) jx jb d_Mod_take_35 (by decide) ?_
          refine lv_aload_n jx jb d_Mod_take_37 rfl (lv_at jl 0 rfl) ?_
          refine va_get (D := D) (ci := 4) (v := .int (iZ go)) (C := R_Mod) (T := F_Mod) (N := 14) jx jb jts i_Mod jown jK.1 jP 0 rfl rfl 2 (by decide) (jts _ fl_Mod_42) (fun _ h9 => h9) rfl d_Mod_take_38 ?_
          refine z_imul jx jb d_Mod_take_41 ?_
          refine lv_aload_n jx jb d_Mod_take_42 rfl (lv_at jl 0 rfl) ?_
          refine va_get (D := D) (ci := 4) (v := .int (iZ (t : Int))) (C := R_Mod) (T := F_Mod) (N := 14) jx jb jts i_Mod jown jK.1 jP 0 rfl rfl 13 (by decide) (jts _ fl_Mod_96) (fun _ h9 => h9) rfl d_Mod_take_43 ?_
          refine z_iadd jx jb d_Mod_take_46 ?_
          refine lv_iload_n jx jb d_Mod_take_47 rfl (lv_at jl 3 rfl) ?_
          refine z_iadd jx jb d_Mod_take_48 ?_
          refine lv_istore (lv' := [(4, .int (iZ (((8 * go) + (t : Int)) + (j : Int)))), (0, .ref r), (1, .int (iZ (n : Int))), (2, .int (iZ (nbI xi (8 * go.toNat + t) j))), (3, .int (iZ (j : Int)))]) jx jb d_Mod_take_49 jl (by decide) rfl (fun ls jl => ?_)
          refine lv_iload_n jx jb d_Mod_take_51 rfl (lv_at jl 3 rfl) ?_
          refine lv_aload_n jx jb d_Mod_take_52 rfl (lv_at jl 1 rfl) ?_
          refine va_get (D := D) (ci := 4) (v := .ref ri) (C := R_Mod) (T := F_Mod) (N := 14) jx jb jts i_Mod jown jK.1 jP 0 rfl rfl 0 (by decide) (jts _ fl_Mod_7) (fun _ h9 => h9) rfl d_Mod_take_53 ?_
          refine lv_iload jx jb d_Mod_take_56 (lv_at jl 0 rfl) ?_
          refine lv_bipush (v := iZ 8) jx jb d_Mod_take_58 (by decide) ?_
          refine z_idiv jx jb d_Mod_take_60 (by omega) ?_
          have hxq := hxi ((8 * go.toNat + t + j) / 8) (by omega)
          refine z_iald jx jb jK.1 jP 1 0 rfl rfl ((8 * go.toNat + t + j) / 8) (by omega) d_Mod_take_61 ?_
          refine lv_iload jx jb d_Mod_take_62 (lv_at jl 0 rfl) ?_
          refine lv_bipush (v := iZ 8) jx jb d_Mod_take_64 (by decide) ?_
          refine z_irem jx jb d_Mod_take_66 (by omega) ?_
          refine z_ishr jx jb d_Mod_take_67 ((8 * go.toNat + t + j) % 8) (2 ^ ((8 * go.toNat + t + j) % 8)) (rfl) (by omega) ?_
          refine lv_iconst (v := iZ 1) jx jb d_Mod_take_68 rfl ?_
          refine z_iand jx jb d_Mod_take_69 1 2 (rfl) (rfl) (by decide) ?_
          refine lv_iload_n jx jb d_Mod_take_70 rfl (lv_at jl 4 rfl) ?_
          refine z_ishl jx jb d_Mod_take_71 j (2 ^ j) (rfl) (by omega) ?_
          refine z_ior jx jb d_Mod_take_72 j (2 ^ j) (rfl) (xi ((8 * go.toNat + t + j) / 8) / 2 ^ ((8 * go.toNat + t + j) % 8) % 2) (rfl) (nb_or hnb hpj) ?_
          refine lv_istore_n (lv' := [(2, .int (iZ ((nbI xi (8 * go.toNat + t) j) + (xi ((8 * go.toNat + t + j) / 8) / 2 ^ ((8 * go.toNat + t + j) % 8) % 2) * (2 ^ j)))), (4, .int (iZ (((8 * go) + (t : Int)) + (j : Int)))), (0, .ref r), (1, .int (iZ (n : Int))), (3, .int (iZ (j : Int)))]) jx jb d_Mod_take_73 rfl jl (by decide) rfl (fun ls jl => ?_)
          refine lv_iinc (v := iZ ((j : Int) + 1)) (lv' := [(3, .int (iZ ((j : Int) + 1))), (2, .int (iZ ((nbI xi (8 * go.toNat + t) j) + (xi ((8 * go.toNat + t + j) / 8) / 2 ^ ((8 * go.toNat + t + j) % 8) % 2) * (2 ^ j)))), (4, .int (iZ (((8 * go) + (t : Int)) + (j : Int)))), (0, .ref r), (1, .int (iZ (n : Int)))]) jx jb d_Mod_take_74 jl (k := 4) rfl (iZ_add _ _) (by decide) rfl (fun ls jl => ?_)
          refine lv_goto (tgt := 30) jx jb d_Mod_take_77 (by decide) ?_
          exact ih30 (j + 1) (by omega) (by first | assumption | omega) _ _ (jP.sub [0, 1] rfl) (jD.sub [0, 1] (by decide) rfl) jS _ (lv_sub jl [3, 4, 1, 0] rfl)
    exact hloop30 ((n - 0) + 1) 0 (Nat.lt_succ_self _) (by first | assumption | omega) _ _ (jP.sub [0, 1] rfl) (jD.sub [0, 1] (by decide) rfl) jS _ (lv_sub jl [2, 3, 1, 0] rfl)
  ·
    refine lv_iconst (v := iZ (-1)) jx jb d_Mod_take_24 rfl ?_
    exact jret _ _ _ ((t : Int)) _ _ (Or.inl rfl) (Or.inl ⟨rfl, by omega, rfl⟩) (jP.sub [0, 1] rfl) (jD.sub [0, 1] (by decide) rfl) jS d_Mod_take_25
abbrev rm_M_bitsAt : Room := { frames := 1, cells := 0, slots := 0, locals := 24 }
set_option maxHeartbeats 4000000 in
set_option maxRecDepth 100000 in
theorem c_M_bitsAt (l : Launch) (D : va_G) (cI cB cZ : ClassId) (sz : Nat) (r : Nat) (ri : Nat) (ro : Nat) (rc : Nat) (rp : Nat) (rs : Nat) (rd : Nat) (rk : Nat) (rh : Nat) (iL : Int) (go : Int) (oL : Int) (o : Nat) (bP : Int) (bR : Int) (xi : Nat → Int) (t : Nat) (n : Nat) (hiL : 0 ≤ iL ∧ iL ≤ 6000) (hgo : 0 ≤ go ∧ go ≤ iL) (hxi : ∀ k, k < 6000 → 0 ≤ xi k ∧ xi k < 256) (ht : t ≤ 100000) (hn13 : n ≤ 13) (hfit : 8 * go + t + n ≤ 8 * iL) : Met l y_Mod_bitsAt (.code y_Mod_bitsAt b_Mod_bitsAt 3 (some .int) :: zT) rm_M_bitsAt (zPc D classes (TY cI cB cZ) [(r, .inr (4, [.ref ri, .int (iZ iL), .int (iZ go), .ref ro, .int (iZ oL), .ref rc, .int (iZ (o : Int)), .ref rp, .ref rs, .ref rd, .ref rk, .ref rh, .int (iZ bP), .int (iZ bR)])), (ri, .inl (cI, 6000, .inl (zA xi)))] sz [.ref r, .int (iZ (t : Int)), .int (iZ (n : Int))]) (zFi (S := Int) D classes (fun z u => z = nbI xi (8 * go.toNat + t) n ∧ u = (t : Int) + n) (fun u => [(r, .inr (4, [.ref ri, .int (iZ iL), .int (iZ go), .ref ro, .int (iZ oL), .ref rc, .int (iZ (o : Int)), .ref rp, .ref rs, .ref rd, .ref rk, .ref rh, .int (iZ bP), .int (iZ u)])), (ri, .inl (cI, 6000, .inl (zA xi)))]) (va_A [(r, .inr (4, [.ref ri, .int (iZ iL), .int (iZ go), .ref ro, .int (iZ oL), .ref rc, .int (iZ (o : Int)), .ref rp, .ref rs, .ref rd, .ref rk, .ref rh, .int (iZ bP), .int (iZ bR)])), (ri, .inl (cI, 6000, .inl (zA xi)))] sz)) 0 0 (va_A [(r, .inr (4, [.ref ri, .int (iZ iL), .int (iZ go), .ref ro, .int (iZ oL), .ref rc, .int (iZ (o : Int)), .ref rp, .ref rs, .ref rd, .ref rk, .ref rh, .int (iZ bP), .int (iZ bR)])), (ri, .inl (cI, 6000, .inl (zA xi)))] sz) := by
  refine z_ofi (by decide) (Nat.le_of_ble_eq_true rfl) (Or.inl rfl) ?_
  intro p e s m args below meth c A Q E jA jK jret H locs jP jD jS ls jl
  obtain ⟨jx, jb, jrt, jml, jown, jts, jlk⟩ := E
  have jown : s.vm.findClass R_Mod = some m.cls := jown
  have jl : lv_has ls 3 [(0, .ref r), (1, .int (iZ (t : Int))), (2, .int (iZ (n : Int)))] := jl
  refine lv_aload_n jx jb d_Mod_bitsAt_0 rfl (lv_at jl 0 rfl) ?_
  refine lv_iload_n jx jb d_Mod_bitsAt_1 rfl (lv_at jl 1 rfl) ?_
  refine va_put (D := D) (ci := 4) (v := .int (iZ (t : Int))) (ty := .int) (C := R_Mod) (T := F_Mod) (N := 14) jx jb jts i_Mod t_Mod t_Mod_ok n_Mod jown jK.1 jP jD jS 0 rfl rfl 13 (by decide) (jts _ fl_Mod_96) (fun _ h9 => h9) rfl (by decide +kernel) rfl rfl (Nat.le_of_ble_eq_true rfl) d_Mod_bitsAt_2 (fun H locs jP jD jS => ?_)
  have jP : va_P D classes [(r, .inr (4, [.ref ri, .int (iZ iL), .int (iZ go), .ref ro, .int (iZ oL), .ref rc, .int (iZ (o : Int)), .ref rp, .ref rs, .ref rd, .ref rk, .ref rh, .int (iZ bP), .int (iZ (t : Int))])), (ri, .inl (cI, 6000, .inl (zA xi)))] H := jP
  have jD : va_D A [(r, .inr (4, [.ref ri, .int (iZ iL), .int (iZ go), .ref ro, .int (iZ oL), .ref rc, .int (iZ (o : Int)), .ref rp, .ref rs, .ref rd, .ref rk, .ref rh, .int (iZ bP), .int (iZ (t : Int))])), (ri, .inl (cI, 6000, .inl (zA xi)))] := jD
  refine lv_aload_n jx jb d_Mod_bitsAt_5 rfl (lv_at jl 0 rfl) ?_
  refine lv_iload_n jx jb d_Mod_bitsAt_6 rfl (lv_at jl 2 rfl) ?_
  refine z_backi (wr := []) jP jD jS jA [0, 1] [] rfl rfl (by decide) (by decide) (va_runV (As := [.int (iZ (n : Int))]) (rest := []) ⟨jx, jb, jml, jown, jts⟩ (c_M_take l D cI cB cZ H.size r ri ro rc rp rs rd rk rh iL go oL o bP xi t n (by first | assumption | omega) (by first | assumption | omega) (by first | assumption | omega) (by first | assumption | omega) (by first | assumption | omega)) (zc_V 1 jts cd_Mod_take lk_Mod_99 im_Mod_take se_Mod_take in_Mod hd_Mod_take ⟨Nat.le_of_ble_eq_true rfl, Nat.le_of_ble_eq_true rfl⟩ rfl rfl) (z_preV jK jP jD [0, 1] (by decide) rfl rfl rfl rfl) rfl rfl jl.1 rfl (lv_room (Nat.le_of_ble_eq_true rfl)) d_Mod_bitsAt_7 ⟨Nat.le_of_ble_eq_true rfl, Nat.le_of_ble_eq_true rfl⟩) (fun z7 u7 H locs hz7 jP jD jS => ?_)
  obtain ⟨bR1_7, rfl⟩ : ∃ z, z = u7 := ⟨_, rfl⟩
  have jP : va_P D classes [(r, .inr (4, [.ref ri, .int (iZ iL), .int (iZ go), .ref ro, .int (iZ oL), .ref rc, .int (iZ (o : Int)), .ref rp, .ref rs, .ref rd, .ref rk, .ref rh, .int (iZ bP), .int (iZ bR1_7)])), (ri, .inl (cI, 6000, .inl (zA xi)))] H := jP.sub [0, 1] rfl
  have jD : va_D A [(r, .inr (4, [.ref ri, .int (iZ iL), .int (iZ go), .ref ro, .int (iZ oL), .ref rc, .int (iZ (o : Int)), .ref rp, .ref rs, .ref rd, .ref rk, .ref rh, .int (iZ bP), .int (iZ bR1_7)])), (ri, .inl (cI, 6000, .inl (zA xi)))] := jD.sub [0, 1] (by decide) rfl
  rcases hz7 with ⟨rfl, hq7, hb7⟩ | ⟨rfl, hq7, hb7⟩
  ·
    exfalso; omega
  ·
    exact jret _ _ _ (bR1_7) _ _ (Or.inl rfl) (⟨rfl, hb7⟩) (jP.sub [0, 1] rfl) (jD.sub [0, 1] (by decide) rfl) jS d_Mod_bitsAt_10
end
section
theorem cd_Mod_numberOf : Cond.code y_Mod_numberOf b_Mod_numberOf 4 (some .int) ∈ zT := zT_of (List.mem_of_getElem? (i := 651) (by decide +kernel)) rfl
theorem hd_Mod_numberOf : y_Mod_numberOf.cls ≠ "java/lang/invoke/MethodHandle" ∧ y_Mod_numberOf.cls ≠ "java/lang/invoke/VarHandle" ∧ (parseMethodDescriptor y_Mod_numberOf.desc).map (fun d => d.parameters.length) = some 1 := by decide +kernel
theorem lk_Mod_115 : Cond.methodLink R_Mod 115 y_Mod_numberOf ∈ zT := zT_of (List.mem_of_getElem? (i := 648) (by decide +kernel)) rfl
theorem im_Mod_numberOf : Cond.instanceMethod y_Mod_numberOf ∈ zT := zT_of (List.mem_of_getElem? (i := 650) (by decide +kernel)) rfl
theorem se_Mod_numberOf : Cond.selects R_Mod y_Mod_numberOf y_Mod_numberOf ∈ zT := zT_of (List.mem_of_getElem? (i := 25) (by decide +kernel)) rfl
theorem cd_Mod_baseOf : Cond.code y_Mod_baseOf b_Mod_baseOf 2 (some .int) ∈ zT := zT_of (List.mem_of_getElem? (i := 659) (by decide +kernel)) rfl
theorem hd_Mod_baseOf : y_Mod_baseOf.cls ≠ "java/lang/invoke/MethodHandle" ∧ y_Mod_baseOf.cls ≠ "java/lang/invoke/VarHandle" ∧ (parseMethodDescriptor y_Mod_baseOf.desc).map (fun d => d.parameters.length) = some 1 := by decide +kernel
theorem lk_Mod_118 : Cond.methodLink R_Mod 118 y_Mod_baseOf ∈ zT := zT_of (List.mem_of_getElem? (i := 656) (by decide +kernel)) rfl
theorem im_Mod_baseOf : Cond.instanceMethod y_Mod_baseOf ∈ zT := zT_of (List.mem_of_getElem? (i := 658) (by decide +kernel)) rfl
theorem se_Mod_baseOf : Cond.selects R_Mod y_Mod_baseOf y_Mod_baseOf ∈ zT := zT_of (List.mem_of_getElem? (i := 27) (by decide +kernel)) rfl
theorem d_Mod_lowestCell_0 : decode b_Mod_lowestCell 0 = .ok (.iconst 0, 1) := by decide +kernel
theorem d_Mod_lowestCell_1 : decode b_Mod_lowestCell 1 = .ok (.istore_n 2, 1) := by decide +kernel
theorem d_Mod_lowestCell_2 : decode b_Mod_lowestCell 2 = .ok (.iload_n 2, 1) := by decide +kernel
theorem d_Mod_lowestCell_3 : decode b_Mod_lowestCell 3 = .ok (.iconst 1, 1) := by decide +kernel
theorem d_Mod_lowestCell_4 : decode b_Mod_lowestCell 4 = .ok (.aload_n 0, 1) := by decide +kernel
theorem d_Mod_lowestCell_5 : decode b_Mod_lowestCell 5 = .ok (.getfield 50, 3) := by decide +kernel
theorem d_Mod_lowestCell_8 : decode b_Mod_lowestCell 8 = .ok (.ishl, 1) := by decide +kernel
theorem d_Mod_lowestCell_9 : decode b_Mod_lowestCell 9 = .ok (.if_icmp .ge 21, 3) := by decide +kernel
theorem d_Mod_lowestCell_12 : decode b_Mod_lowestCell 12 = .ok (.aload_n 0, 1) := by decide +kernel
theorem d_Mod_lowestCell_13 : decode b_Mod_lowestCell 13 = .ok (.getfield 22, 3) := by decide +kernel
theorem d_Mod_lowestCell_16 : decode b_Mod_lowestCell 16 = .ok (.iload_n 2, 1) := by decide +kernel
theorem d_Mod_lowestCell_17 : decode b_Mod_lowestCell 17 = .ok (.iaload, 1) := by decide +kernel
theorem d_Mod_lowestCell_18 : decode b_Mod_lowestCell 18 = .ok (.iload_n 1, 1) := by decide +kernel
theorem d_Mod_lowestCell_19 : decode b_Mod_lowestCell 19 = .ok (.if_icmp .ne 5, 3) := by decide +kernel
theorem d_Mod_lowestCell_22 : decode b_Mod_lowestCell 22 = .ok (.iload_n 2, 1) := by decide +kernel
theorem d_Mod_lowestCell_23 : decode b_Mod_lowestCell 23 = .ok (.ireturn, 1) := by decide +kernel
theorem d_Mod_lowestCell_24 : decode b_Mod_lowestCell 24 = .ok (.iinc 2 1, 3) := by decide +kernel
theorem d_Mod_lowestCell_27 : decode b_Mod_lowestCell 27 = .ok (.goto (-25), 3) := by decide +kernel
theorem d_Mod_cellOf_0 : decode b_Mod_cellOf 0 = .ok (.iload_n 2, 1) := by decide +kernel
theorem d_Mod_cellOf_1 : decode b_Mod_cellOf 1 = .ok (.aload_n 0, 1) := by decide +kernel
theorem d_Mod_cellOf_2 : decode b_Mod_cellOf 2 = .ok (.getfield 19, 3) := by decide +kernel
theorem d_Mod_cellOf_5 : decode b_Mod_cellOf 5 = .ok (.iload_n 1, 1) := by decide +kernel
theorem d_Mod_cellOf_6 : decode b_Mod_cellOf 6 = .ok (.iaload, 1) := by decide +kernel
theorem d_Mod_cellOf_7 : decode b_Mod_cellOf 7 = .ok (.invokestatic 46, 3) := by decide +kernel
theorem d_Mod_cellOf_10 : decode b_Mod_cellOf 10 = .ok (.isub, 1) := by decide +kernel
theorem d_Mod_cellOf_11 : decode b_Mod_cellOf 11 = .ok (.istore_n 3, 1) := by decide +kernel
theorem d_Mod_cellOf_12 : decode b_Mod_cellOf 12 = .ok (.iconst 0, 1) := by decide +kernel
theorem d_Mod_cellOf_13 : decode b_Mod_cellOf 13 = .ok (.istore 4, 2) := by decide +kernel
theorem d_Mod_cellOf_15 : decode b_Mod_cellOf 15 = .ok (.iload 4, 2) := by decide +kernel
theorem d_Mod_cellOf_17 : decode b_Mod_cellOf 17 = .ok (.iconst 1, 1) := by decide +kernel
theorem d_Mod_cellOf_18 : decode b_Mod_cellOf 18 = .ok (.aload_n 0, 1) := by decide +kernel
theorem d_Mod_cellOf_19 : decode b_Mod_cellOf 19 = .ok (.getfield 50, 3) := by decide +kernel
theorem d_Mod_cellOf_22 : decode b_Mod_cellOf 22 = .ok (.ishl, 1) := by decide +kernel
theorem d_Mod_cellOf_23 : decode b_Mod_cellOf 23 = .ok (.if_icmp .ge 30, 3) := by decide +kernel
theorem d_Mod_cellOf_26 : decode b_Mod_cellOf 26 = .ok (.aload_n 0, 1) := by decide +kernel
theorem d_Mod_cellOf_27 : decode b_Mod_cellOf 27 = .ok (.getfield 22, 3) := by decide +kernel
theorem d_Mod_cellOf_30 : decode b_Mod_cellOf 30 = .ok (.iload 4, 2) := by decide +kernel
theorem d_Mod_cellOf_32 : decode b_Mod_cellOf 32 = .ok (.iaload, 1) := by decide +kernel
theorem d_Mod_cellOf_33 : decode b_Mod_cellOf 33 = .ok (.iload_n 1, 1) := by decide +kernel
theorem d_Mod_cellOf_34 : decode b_Mod_cellOf 34 = .ok (.if_icmp .ne 13, 3) := by decide +kernel
theorem d_Mod_cellOf_37 : decode b_Mod_cellOf 37 = .ok (.iload_n 3, 1) := by decide +kernel
theorem d_Mod_cellOf_38 : decode b_Mod_cellOf 38 = .ok (.ifCond .ne 6, 3) := by decide +kernel
theorem d_Mod_cellOf_41 : decode b_Mod_cellOf 41 = .ok (.iload 4, 2) := by decide +kernel
theorem d_Mod_cellOf_43 : decode b_Mod_cellOf 43 = .ok (.ireturn, 1) := by decide +kernel
theorem d_Mod_cellOf_44 : decode b_Mod_cellOf 44 = .ok (.iinc 3 (-1), 3) := by decide +kernel
theorem d_Mod_cellOf_47 : decode b_Mod_cellOf 47 = .ok (.iinc 4 1, 3) := by decide +kernel
theorem d_Mod_cellOf_50 : decode b_Mod_cellOf 50 = .ok (.goto (-35), 3) := by decide +kernel
theorem d_Mod_numberFor_0 : decode b_Mod_numberFor 0 = .ok (.aload_n 0, 1) := by decide +kernel
theorem d_Mod_numberFor_1 : decode b_Mod_numberFor 1 = .ok (.getfield 19, 3) := by decide +kernel
theorem d_Mod_numberFor_4 : decode b_Mod_numberFor 4 = .ok (.iload_n 1, 1) := by decide +kernel
theorem d_Mod_numberFor_5 : decode b_Mod_numberFor 5 = .ok (.iaload, 1) := by decide +kernel
theorem d_Mod_numberFor_6 : decode b_Mod_numberFor 6 = .ok (.invokestatic 46, 3) := by decide +kernel
theorem d_Mod_numberFor_9 : decode b_Mod_numberFor 9 = .ok (.istore_n 3, 1) := by decide +kernel
theorem d_Mod_numberFor_10 : decode b_Mod_numberFor 10 = .ok (.iconst 0, 1) := by decide +kernel
theorem d_Mod_numberFor_11 : decode b_Mod_numberFor 11 = .ok (.istore 4, 2) := by decide +kernel
theorem d_Mod_numberFor_13 : decode b_Mod_numberFor 13 = .ok (.iload 4, 2) := by decide +kernel
theorem d_Mod_numberFor_15 : decode b_Mod_numberFor 15 = .ok (.aload_n 0, 1) := by decide +kernel
theorem d_Mod_numberFor_16 : decode b_Mod_numberFor 16 = .ok (.getfield 50, 3) := by decide +kernel
theorem d_Mod_numberFor_19 : decode b_Mod_numberFor 19 = .ok (.if_icmp .gt 50, 3) := by decide +kernel
theorem d_Mod_numberFor_22 : decode b_Mod_numberFor 22 = .ok (.iload_n 2, 1) := by decide +kernel
theorem d_Mod_numberFor_23 : decode b_Mod_numberFor 23 = .ok (.iconst 1, 1) := by decide +kernel
theorem d_Mod_numberFor_24 : decode b_Mod_numberFor 24 = .ok (.aload_n 0, 1) := by decide +kernel
theorem d_Mod_numberFor_25 : decode b_Mod_numberFor 25 = .ok (.getfield 50, 3) := by decide +kernel
theorem d_Mod_numberFor_28 : decode b_Mod_numberFor 28 = .ok (.ishl, 1) := by decide +kernel
theorem d_Mod_numberFor_29 : decode b_Mod_numberFor 29 = .ok (.iadd, 1) := by decide +kernel
theorem d_Mod_numberFor_30 : decode b_Mod_numberFor 30 = .ok (.iload 4, 2) := by decide +kernel
theorem d_Mod_numberFor_32 : decode b_Mod_numberFor 32 = .ok (.ishr, 1) := by decide +kernel
theorem d_Mod_numberFor_33 : decode b_Mod_numberFor 33 = .ok (.istore 5, 2) := by decide +kernel
theorem d_Mod_numberFor_35 : decode b_Mod_numberFor 35 = .ok (.iload 5, 2) := by decide +kernel
theorem d_Mod_numberFor_37 : decode b_Mod_numberFor 37 = .ok (.iload_n 3, 1) := by decide +kernel
theorem d_Mod_numberFor_38 : decode b_Mod_numberFor 38 = .ok (.if_icmp .lt 25, 3) := by decide +kernel
theorem d_Mod_numberFor_41 : decode b_Mod_numberFor 41 = .ok (.iload 5, 2) := by decide +kernel
theorem d_Mod_numberFor_43 : decode b_Mod_numberFor 43 = .ok (.iconst 2, 1) := by decide +kernel
theorem d_Mod_numberFor_44 : decode b_Mod_numberFor 44 = .ok (.iload_n 3, 1) := by decide +kernel
theorem d_Mod_numberFor_45 : decode b_Mod_numberFor 45 = .ok (.imul, 1) := by decide +kernel
theorem d_Mod_numberFor_46 : decode b_Mod_numberFor 46 = .ok (.if_icmp .ge 17, 3) := by decide +kernel
theorem d_Mod_numberFor_49 : decode b_Mod_numberFor 49 = .ok (.aload_n 0, 1) := by decide +kernel
theorem d_Mod_numberFor_50 : decode b_Mod_numberFor 50 = .ok (.iload 5, 2) := by decide +kernel
theorem d_Mod_numberFor_52 : decode b_Mod_numberFor 52 = .ok (.invokevirtual 112, 3) := by decide +kernel
theorem d_Mod_numberFor_55 : decode b_Mod_numberFor 55 = .ok (.iload 4, 2) := by decide +kernel
theorem d_Mod_numberFor_57 : decode b_Mod_numberFor 57 = .ok (.if_icmp .ne 6, 3) := by decide +kernel
theorem d_Mod_numberFor_60 : decode b_Mod_numberFor 60 = .ok (.iload 5, 2) := by decide +kernel
theorem d_Mod_numberFor_62 : decode b_Mod_numberFor 62 = .ok (.ireturn, 1) := by decide +kernel
theorem d_Mod_numberFor_63 : decode b_Mod_numberFor 63 = .ok (.iinc 4 1, 3) := by decide +kernel
theorem d_Mod_numberFor_66 : decode b_Mod_numberFor 66 = .ok (.goto (-53), 3) := by decide +kernel
theorem d_Mod_cell_0 : decode b_Mod_cell 0 = .ok (.aload_n 0, 1) := by decide +kernel
theorem d_Mod_cell_1 : decode b_Mod_cell 1 = .ok (.getfield 50, 3) := by decide +kernel
theorem d_Mod_cell_4 : decode b_Mod_cell 4 = .ok (.ifCond .eq 26, 3) := by decide +kernel
theorem d_Mod_cell_7 : decode b_Mod_cell 7 = .ok (.iload_n 1, 1) := by decide +kernel
theorem d_Mod_cell_8 : decode b_Mod_cell 8 = .ok (.ifCond .lt 22, 3) := by decide +kernel
theorem d_Mod_cell_11 : decode b_Mod_cell 11 = .ok (.iload_n 1, 1) := by decide +kernel
theorem d_Mod_cell_12 : decode b_Mod_cell 12 = .ok (.iconst 1, 1) := by decide +kernel
theorem d_Mod_cell_13 : decode b_Mod_cell 13 = .ok (.aload_n 0, 1) := by decide +kernel
theorem d_Mod_cell_14 : decode b_Mod_cell 14 = .ok (.getfield 50, 3) := by decide +kernel
theorem d_Mod_cell_17 : decode b_Mod_cell 17 = .ok (.ishl, 1) := by decide +kernel
theorem d_Mod_cell_18 : decode b_Mod_cell 18 = .ok (.if_icmp .ge 12, 3) := by decide +kernel
theorem d_Mod_cell_21 : decode b_Mod_cell 21 = .ok (.iload_n 2, 1) := by decide +kernel
theorem d_Mod_cell_22 : decode b_Mod_cell 22 = .ok (.ifCond .lt 8, 3) := by decide +kernel
theorem d_Mod_cell_25 : decode b_Mod_cell 25 = .ok (.iload_n 2, 1) := by decide +kernel
theorem d_Mod_cell_26 : decode b_Mod_cell 26 = .ok (.iconst 2, 1) := by decide +kernel
theorem d_Mod_cell_27 : decode b_Mod_cell 27 = .ok (.if_icmp .le 5, 3) := by decide +kernel
theorem d_Mod_cell_30 : decode b_Mod_cell 30 = .ok (.iconst (-1), 1) := by decide +kernel
theorem d_Mod_cell_31 : decode b_Mod_cell 31 = .ok (.ireturn, 1) := by decide +kernel
theorem d_Mod_cell_32 : decode b_Mod_cell 32 = .ok (.iload_n 2, 1) := by decide +kernel
theorem d_Mod_cell_33 : decode b_Mod_cell 33 = .ok (.ifCond .ne 12, 3) := by decide +kernel
theorem d_Mod_cell_36 : decode b_Mod_cell 36 = .ok (.aload_n 0, 1) := by decide +kernel
theorem d_Mod_cell_37 : decode b_Mod_cell 37 = .ok (.getfield 22, 3) := by decide +kernel
theorem d_Mod_cell_40 : decode b_Mod_cell 40 = .ok (.iload_n 1, 1) := by decide +kernel
theorem d_Mod_cell_41 : decode b_Mod_cell 41 = .ok (.iaload, 1) := by decide +kernel
theorem d_Mod_cell_42 : decode b_Mod_cell 42 = .ok (.goto 29, 3) := by decide +kernel
theorem d_Mod_cell_45 : decode b_Mod_cell 45 = .ok (.iload_n 2, 1) := by decide +kernel
theorem d_Mod_cell_46 : decode b_Mod_cell 46 = .ok (.iconst 1, 1) := by decide +kernel
theorem d_Mod_cell_47 : decode b_Mod_cell 47 = .ok (.if_icmp .ne 15, 3) := by decide +kernel
theorem d_Mod_cell_50 : decode b_Mod_cell 50 = .ok (.aload_n 0, 1) := by decide +kernel
theorem d_Mod_cell_51 : decode b_Mod_cell 51 = .ok (.aload_n 0, 1) := by decide +kernel
theorem d_Mod_cell_52 : decode b_Mod_cell 52 = .ok (.iload_n 1, 1) := by decide +kernel
theorem d_Mod_cell_53 : decode b_Mod_cell 53 = .ok (.invokevirtual 115, 3) := by decide +kernel
theorem d_Mod_cell_56 : decode b_Mod_cell 56 = .ok (.invokevirtual 112, 3) := by decide +kernel
theorem d_Mod_cell_59 : decode b_Mod_cell 59 = .ok (.goto 12, 3) := by decide +kernel
theorem d_Mod_cell_62 : decode b_Mod_cell 62 = .ok (.aload_n 0, 1) := by decide +kernel
theorem d_Mod_cell_63 : decode b_Mod_cell 63 = .ok (.aload_n 0, 1) := by decide +kernel
theorem d_Mod_cell_64 : decode b_Mod_cell 64 = .ok (.iload_n 1, 1) := by decide +kernel
theorem d_Mod_cell_65 : decode b_Mod_cell 65 = .ok (.invokevirtual 115, 3) := by decide +kernel
theorem d_Mod_cell_68 : decode b_Mod_cell 68 = .ok (.invokevirtual 118, 3) := by decide +kernel
theorem d_Mod_cell_71 : decode b_Mod_cell 71 = .ok (.ireturn, 1) := by decide +kernel
abbrev rm_M_lowestCell : Room := { frames := 0, cells := 0, slots := 0, locals := 0 }
set_option maxHeartbeats 4000000 in
set_option maxRecDepth 100000 in
theorem c_M_lowestCell (l : Launch) (D : va_G) (cI cB cZ : ClassId) (r : Nat) (ri : Nat) (ro : Nat) (rc : Nat) (rp : Nat) (rs : Nat) (rd : Nat) (rk : Nat) (rh : Nat) (iL : Int) (go : Int) (oL : Int) (o : Nat) (bP : Int) (bR : Int) (xs : Nat → Int) (x : Int) (ho : o ≤ 12) (hxs : ∀ k, k < 4096 → 0 ≤ xs k ∧ xs k < 256) (hx1 : 0 ≤ x ∧ x < 256) (hex : 0 < cntS xs x (2 ^ o)) : Met l y_Mod_lowestCell (.code y_Mod_lowestCell b_Mod_lowestCell 3 (some .int) :: zT) rm_M_lowestCell (zRc D classes (TY cI cB cZ) [(r, .inr (4, [.ref ri, .int (iZ iL), .int (iZ go), .ref ro, .int (iZ oL), .ref rc, .int (iZ (o : Int)), .ref rp, .ref rs, .ref rd, .ref rk, .ref rh, .int (iZ bP), .int (iZ bR)])), (rs, .inl (cI, 4096, .inl (zA xs)))] [.ref r, .int (iZ x)]) (zSi (fun z => ∃ k : Nat, z = (k : Int) ∧ (k : Int) < 2 ^ o ∧ xs k = x ∧ cntS xs x k = 0)) 0 0 (fun _ => False) := by
  refine z_ofr (by decide) (Nat.le_of_ble_eq_true rfl) (Or.inl rfl) ?_
  intro p e s m args below meth c Q E jP jK jret ls jl
  obtain ⟨jx, jb, jrt, jml, jown, jts, jlk⟩ := E
  have jown : s.vm.findClass R_Mod = some m.cls := jown
  have hp12 := p2_le ho
  have hp0 := p2_pos o
  have hpn := p2n o
  have jl : lv_has ls 3 [(0, .ref r), (1, .int (iZ x))] := jl
  refine lv_iconst (v := iZ 0) jx jb d_Mod_lowestCell_0 rfl ?_
  refine lv_istore_n (lv' := [(2, .int (iZ 0)), (0, .ref r), (1, .int (iZ x))]) jx jb d_Mod_lowestCell_1 rfl jl (by decide) rfl (fun ls jl => ?_)
  have hloop2 : ∀ (nF : Nat) (j : Nat), 2 ^ o - j < nF → ((j : Int) ≤ 2 ^ o) → (cntS xs x j = 0) → ∀ ls : Array Slot, lv_has ls 3 [(0, .ref r), (1, .int (iZ x)), (2, .int (iZ (j : Int)))] → W p l e rm_M_lowestCell s m args below meth c s.heap [] 0 0 Q (F0 m 2 ls []) := by
    intro nF
    induction nF with
    | zero => intro j hm; exact absurd hm (Nat.not_lt_zero _)
    | succ nF ih2 =>
      intro j hm hj h0 ls jl
      refine lv_iload_n jx jb d_Mod_lowestCell_2 rfl (lv_at jl 2 rfl) ?_
      refine lv_iconst (v := iZ 1) jx jb d_Mod_lowestCell_3 rfl ?_
      refine lv_aload_n jx jb d_Mod_lowestCell_4 rfl (lv_at jl 0 rfl) ?_
      refine va_get (D := D) (ci := 4) (v := .int (iZ (o : Int))) (C := R_Mod) (T := F_Mod) (N := 14) jx jb jts i_Mod jown jK.1 jP 0 rfl rfl 6 (by decide) (jts _ fl_Mod_50) (fun _ h9 => h9) rfl d_Mod_lowestCell_5 ?_
      refine z_ishl jx jb d_Mod_lowestCell_8 o (2 ^ o) (rfl) (by omega) ?_
      refine z_top (2 ^ o) (Int.one_mul _) ?_
      refine z_icmp_ge (tgt := 30) jx jb d_Mod_lowestCell_9 (by decide) ⟨⟨by omega, by omega⟩, ⟨by omega, by omega⟩⟩ (fun hc9 => ?_) (fun hc9 => ?_)
      ·
        exfalso
        obtain rfl : j = 2 ^ o := by omega
        omega
      ·
        refine lv_aload_n jx jb d_Mod_lowestCell_12 rfl (lv_at jl 0 rfl) ?_
        refine va_get (D := D) (ci := 4) (v := .ref rs) (C := R_Mod) (T := F_Mod) (N := 14) jx jb jts i_Mod jown jK.1 jP 0 rfl rfl 8 (by decide) (jts _ fl_Mod_22) (fun _ h9 => h9) rfl d_Mod_lowestCell_13 ?_
        refine lv_iload_n jx jb d_Mod_lowestCell_16 rfl (lv_at jl 2 rfl) ?_
        refine z_iald jx jb jK.1 jP 1 0 rfl rfl j (by omega) d_Mod_lowestCell_17 ?_
        refine lv_iload_n jx jb d_Mod_lowestCell_18 rfl (lv_at jl 1 rfl) ?_
        have hsj := hxs j (by omega)
        refine z_icmp_ne (tgt := 24) jx jb d_Mod_lowestCell_19 (by decide) ⟨⟨by omega, by omega⟩, ⟨by omega, by omega⟩⟩ (fun hc19 => ?_) (fun hc19 => ?_)
        ·
          refine lv_iinc (v := iZ ((j : Int) + 1)) (lv' := [(2, .int (iZ ((j : Int) + 1))), (0, .ref r), (1, .int (iZ x))]) jx jb d_Mod_lowestCell_24 jl (k := 2) rfl (iZ_add _ _) (by decide) rfl (fun ls jl => ?_)
          refine lv_goto (tgt := 2) jx jb d_Mod_lowestCell_27 (by decide) ?_
          exact ih2 (j + 1) (by omega) (by first | assumption | omega) (by rw [cntS_n hc19]; exact h0) _ (lv_sub jl [1, 2, 0] rfl)
        ·
          refine lv_iload_n jx jb d_Mod_lowestCell_22 rfl (lv_at jl 2 rfl) ?_
          exact jret _ _ _ (Or.inl rfl) (⟨j, rfl, by omega, hc19, h0⟩) d_Mod_lowestCell_23
  exact hloop2 ((2 ^ o - 0) + 1) 0 (Nat.lt_succ_self _) (by first | assumption | omega) (rfl) _ (lv_sub jl [1, 2, 0] rfl)
abbrev rm_M_cellOf : Room := { frames := 1, cells := 0, slots := 0, locals := 20 }
set_option maxHeartbeats 4000000 in
set_option maxRecDepth 100000 in
theorem c_M_cellOf (l : Launch) (D : va_G) (cI cB cZ : ClassId) (r : Nat) (ri : Nat) (ro : Nat) (rc : Nat) (rp : Nat) (rs : Nat) (rd : Nat) (rk : Nat) (rh : Nat) (iL : Int) (go : Int) (oL : Int) (o : Nat) (bP : Int) (bR : Int) (xp : Nat → Int) (xs : Nat → Int) (x : Int) (y : Int) (ho : o ≤ 12) (hpr : ∀ k, k < 256 → -1 ≤ xp k ∧ xp k ≤ 65536) (hxs : ∀ k, k < 4096 → 0 ≤ xs k ∧ xs k < 256) (hx1 : 0 ≤ x ∧ x < 256) (hy : 0 ≤ y - wgt (xp x.toNat) ∧ y - wgt (xp x.toNat) < cntS xs x (2 ^ o) ∧ y < 1000000) : Met l y_Mod_cellOf (.code y_Mod_cellOf b_Mod_cellOf 5 (some .int) :: zT) rm_M_cellOf (zRc D classes (TY cI cB cZ) [(r, .inr (4, [.ref ri, .int (iZ iL), .int (iZ go), .ref ro, .int (iZ oL), .ref rc, .int (iZ (o : Int)), .ref rp, .ref rs, .ref rd, .ref rk, .ref rh, .int (iZ bP), .int (iZ bR)])), (rp, .inl (cI, 256, .inl (zA xp))), (rs, .inl (cI, 4096, .inl (zA xs)))] [.ref r, .int (iZ x), .int (iZ y)]) (zSi (fun z => ∃ k : Nat, z = (k : Int) ∧ (k : Int) < 2 ^ o ∧ xs k = x ∧ cntS xs x k = y - wgt (xp x.toNat))) 0 0 (fun _ => False) := by
  refine z_ofr (by decide) (Nat.le_of_ble_eq_true rfl) (Or.inl rfl) ?_
  intro p e s m args below meth c Q E jP jK jret ls jl
  obtain ⟨jx, jb, jrt, jml, jown, jts, jlk⟩ := E
  have jown : s.vm.findClass R_Mod = some m.cls := jown
  have hp12 := p2_le ho
  have hp0 := p2_pos o
  have hpn := p2n o
  have hpx := hpr x.toNat (by omega)
  have hwb := wgt_b hpx
  have jl : lv_has ls 5 [(0, .ref r), (1, .int (iZ x)), (2, .int (iZ y))] := jl
  refine lv_iload_n jx jb d_Mod_cellOf_0 rfl (lv_at jl 2 rfl) ?_
  refine lv_aload_n jx jb d_Mod_cellOf_1 rfl (lv_at jl 0 rfl) ?_
  refine va_get (D := D) (ci := 4) (v := .ref rp) (C := R_Mod) (T := F_Mod) (N := 14) jx jb jts i_Mod jown jK.1 jP 0 rfl rfl 7 (by decide) (jts _ fl_Mod_19) (fun _ h9 => h9) rfl d_Mod_cellOf_2 ?_
  refine lv_iload_n jx jb d_Mod_cellOf_5 rfl (lv_at jl 1 rfl) ?_
  refine z_iald jx jb jK.1 jP 1 0 rfl rfl x.toNat (by omega) d_Mod_cellOf_6 ?_
  refine z_backe (va_runS (As := [.int (iZ (xp x.toNat))]) (rest := [.int (iZ y)]) ⟨jx, jb, jml, jown, jts⟩ (c_M_weight l D cI cB cZ (xp x.toNat) (by first | assumption | omega)) (zc_S 1 jts cd_Mod_weight lk_Mod_46 st_Mod_weight in_Mod hd_Mod_weight ⟨Nat.le_of_ble_eq_true rfl, Nat.le_of_ble_eq_true rfl⟩ rfl rfl) (z_preSR jK jP [] rfl) rfl rfl jl.1 rfl (lv_room (Nat.le_of_ble_eq_true rfl)) d_Mod_cellOf_7 ⟨Nat.le_of_ble_eq_true rfl, Nat.le_of_ble_eq_true rfl⟩) ?_
  refine z_isub jx jb d_Mod_cellOf_10 ?_
  refine lv_istore_n (lv' := [(3, .int (iZ (y - (wgt (xp x.toNat))))), (0, .ref r), (1, .int (iZ x)), (2, .int (iZ y))]) jx jb d_Mod_cellOf_11 rfl jl (by decide) rfl (fun ls jl => ?_)
  refine lv_iconst (v := iZ 0) jx jb d_Mod_cellOf_12 rfl ?_
  refine lv_istore (lv' := [(4, .int (iZ 0)), (3, .int (iZ (y - (wgt (xp x.toNat))))), (0, .ref r), (1, .int (iZ x)), (2, .int (iZ y))]) jx jb d_Mod_cellOf_13 jl (by decide) rfl (fun ls jl => ?_)
  have hloop15 : ∀ (nF : Nat) (j : Nat) (v : Int), 2 ^ o - j < nF → ((j : Int) ≤ 2 ^ o) → (v = y - wgt (xp x.toNat) - cntS xs x j ∧ 0 ≤ v) → ∀ ls : Array Slot, lv_has ls 5 [(0, .ref r), (1, .int (iZ x)), (2, .int (iZ y)), (3, .int (iZ v)), (4, .int (iZ (j : Int)))] → W p l e rm_M_cellOf s m args below meth c s.heap [] 0 0 Q (F0 m 15 ls []) := by
    intro nF
    induction nF with
    | zero => intro j v hm; exact absurd hm (Nat.not_lt_zero _)
    | succ nF ih15 =>
      intro j v hm hj h0 ls jl
      refine lv_iload jx jb d_Mod_cellOf_15 (lv_at jl 4 rfl) ?_
      refine lv_iconst (v := iZ 1) jx jb d_Mod_cellOf_17 rfl ?_
      refine lv_aload_n jx jb d_Mod_cellOf_18 rfl (lv_at jl 0 rfl) ?_
      refine va_get (D := D) (ci := 4) (v := .int (iZ (o : Int))) (C := R_Mod) (T := F_Mod) (N := 14) jx jb jts i_Mod jown jK.1 jP 0 rfl rfl 6 (by decide) (jts _ fl_Mod_50) (fun _ h9 => h9) rfl d_Mod_cellOf_19 ?_
      refine z_ishl jx jb d_Mod_cellOf_22 o (2 ^ o) (rfl) (by omega) ?_
      refine z_top (2 ^ o) (Int.one_mul _) ?_
      refine z_icmp_ge (tgt := 53) jx jb d_Mod_cellOf_23 (by decide) ⟨⟨by omega, by omega⟩, ⟨by omega, by omega⟩⟩ (fun hc23 => ?_) (fun hc23 => ?_)
      ·
        exfalso
        obtain rfl : j = 2 ^ o := by omega
        omega
      ·
        refine lv_aload_n jx jb d_Mod_cellOf_26 rfl (lv_at jl 0 rfl) ?_
        refine va_get (D := D) (ci := 4) (v := .ref rs) (C := R_Mod) (T := F_Mod) (N := 14) jx jb jts i_Mod jown jK.1 jP 0 rfl rfl 8 (by decide) (jts _ fl_Mod_22) (fun _ h9 => h9) rfl d_Mod_cellOf_27 ?_
        refine lv_iload jx jb d_Mod_cellOf_30 (lv_at jl 4 rfl) ?_
        refine z_iald jx jb jK.1 jP 2 0 rfl rfl j (by omega) d_Mod_cellOf_32 ?_
        refine lv_iload_n jx jb d_Mod_cellOf_33 rfl (lv_at jl 1 rfl) ?_
        have hsj := hxs j (by omega)
        refine z_icmp_ne (tgt := 47) jx jb d_Mod_cellOf_34 (by decide) ⟨⟨by omega, by omega⟩, ⟨by omega, by omega⟩⟩ (fun hc34 => ?_) (fun hc34 => ?_)
        ·
          refine lv_iinc (v := iZ ((j : Int) + 1)) (lv' := [(4, .int (iZ ((j : Int) + 1))), (0, .ref r), (1, .int (iZ x)), (2, .int (iZ y)), (3, .int (iZ v))]) jx jb d_Mod_cellOf_47 jl (k := 4) rfl (iZ_add _ _) (by decide) rfl (fun ls jl => ?_)
          refine lv_goto (tgt := 15) jx jb d_Mod_cellOf_50 (by decide) ?_
          exact ih15 (j + 1) v (by omega) (by first | assumption | omega) (by first | (rw [cntS_n hc34]; exact h0) | (rw [cntS_s hc34]; omega)) _ (lv_sub jl [1, 2, 3, 4, 0] rfl)
        ·
          refine lv_iload_n jx jb d_Mod_cellOf_37 rfl (lv_at jl 3 rfl) ?_
          have hcb := cntS_lo xs x j
          refine z_if_ne (tgt := 44) jx jb d_Mod_cellOf_38 (by decide) ⟨by omega, by omega⟩ (fun hc38 => ?_) (fun hc38 => ?_)
          ·
            refine lv_iinc (v := iZ (v + (-1))) (lv' := [(3, .int (iZ (v + (-1)))), (0, .ref r), (1, .int (iZ x)), (2, .int (iZ y)), (4, .int (iZ (j : Int)))]) jx jb d_Mod_cellOf_44 jl (k := 3) rfl (iZ_add _ _) (by decide) rfl (fun ls jl => ?_)
            refine lv_iinc (v := iZ ((j : Int) + 1)) (lv' := [(4, .int (iZ ((j : Int) + 1))), (3, .int (iZ (v + (-1)))), (0, .ref r), (1, .int (iZ x)), (2, .int (iZ y))]) jx jb d_Mod_cellOf_47 jl (k := 4) rfl (iZ_add _ _) (by decide) rfl (fun ls jl => ?_)
            refine lv_goto (tgt := 15) jx jb d_Mod_cellOf_50 (by decide) ?_
            exact ih15 (j + 1) (v + (-1)) (by omega) (by first | assumption | omega) (by first | (rw [cntS_n hc34]; exact h0) | (rw [cntS_s hc34]; omega)) _ (lv_sub jl [2, 3, 4, 1, 0] rfl)
          ·
            refine lv_iload jx jb d_Mod_cellOf_41 (lv_at jl 4 rfl) ?_
            exact jret _ _ _ (Or.inl rfl) (⟨j, rfl, by omega, hc34, by omega⟩) d_Mod_cellOf_43
  exact hloop15 ((2 ^ o - 0) + 1) 0 (y - (wgt (xp x.toNat))) (Nat.lt_succ_self _) (by first | assumption | omega) (⟨(Int.sub_zero _).symm, by omega⟩) _ (lv_sub jl [2, 3, 4, 1, 0] rfl)
abbrev rm_M_numberFor : Room := { frames := 1, cells := 0, slots := 0, locals := 22 }
set_option maxHeartbeats 4000000 in
set_option maxRecDepth 100000 in
theorem c_M_numberFor (l : Launch) (D : va_G) (cI cB cZ : ClassId) (r : Nat) (ri : Nat) (ro : Nat) (rc : Nat) (rp : Nat) (rs : Nat) (rd : Nat) (rk : Nat) (rh : Nat) (iL : Int) (go : Int) (oL : Int) (o : Nat) (bP : Int) (bR : Int) (xp : Nat → Int) (x : Int) (y : Int) (ho : o ≤ 12) (hpr : ∀ k, k < 256 → -1 ≤ xp k ∧ xp k ≤ 65536) (hx1 : 0 ≤ x ∧ x < 256) (hy : 0 ≤ y ∧ y < 2 ^ o) (hw : 1 ≤ wgt (xp x.toNat) ∧ wgt (xp x.toNat) ≤ 2 ^ o) : Met l y_Mod_numberFor (.code y_Mod_numberFor b_Mod_numberFor 6 (some .int) :: zT) rm_M_numberFor (zRc D classes (TY cI cB cZ) [(r, .inr (4, [.ref ri, .int (iZ iL), .int (iZ go), .ref ro, .int (iZ oL), .ref rc, .int (iZ (o : Int)), .ref rp, .ref rs, .ref rd, .ref rk, .ref rh, .int (iZ bP), .int (iZ bR)])), (rp, .inl (cI, 256, .inl (zA xp)))] [.ref r, .int (iZ x), .int (iZ y)]) (zSi (fun z => ∃ n : Nat, n ≤ o ∧ z = (y + 2 ^ o) / 2 ^ n ∧ wgt (xp x.toNat) ≤ z ∧ z < 2 * wgt (xp x.toNat))) 0 0 (fun _ => False) := by
  refine z_ofr (by decide) (Nat.le_of_ble_eq_true rfl) (Or.inl rfl) ?_
  intro p e s m args below meth c Q E jP jK jret ls jl
  obtain ⟨jx, jb, jrt, jml, jown, jts, jlk⟩ := E
  have jown : s.vm.findClass R_Mod = some m.cls := jown
  have hp12 := p2_le ho
  have hp0 := p2_pos o
  have hps := p2_s o
  have hpx := hpr x.toNat (by omega)
  have jl : lv_has ls 6 [(0, .ref r), (1, .int (iZ x)), (2, .int (iZ y))] := jl
  refine lv_aload_n jx jb d_Mod_numberFor_0 rfl (lv_at jl 0 rfl) ?_
  refine va_get (D := D) (ci := 4) (v := .ref rp) (C := R_Mod) (T := F_Mod) (N := 14) jx jb jts i_Mod jown jK.1 jP 0 rfl rfl 7 (by decide) (jts _ fl_Mod_19) (fun _ h9 => h9) rfl d_Mod_numberFor_1 ?_
  refine lv_iload_n jx jb d_Mod_numberFor_4 rfl (lv_at jl 1 rfl) ?_
  refine z_iald jx jb jK.1 jP 1 0 rfl rfl x.toNat (by omega) d_Mod_numberFor_5 ?_
  refine z_backe (va_runS (As := [.int (iZ (xp x.toNat))]) (rest := []) ⟨jx, jb, jml, jown, jts⟩ (c_M_weight l D cI cB cZ (xp x.toNat) (by first | assumption | omega)) (zc_S 1 jts cd_Mod_weight lk_Mod_46 st_Mod_weight in_Mod hd_Mod_weight ⟨Nat.le_of_ble_eq_true rfl, Nat.le_of_ble_eq_true rfl⟩ rfl rfl) (z_preSR jK jP [] rfl) rfl rfl jl.1 rfl (lv_room (Nat.le_of_ble_eq_true rfl)) d_Mod_numberFor_6 ⟨Nat.le_of_ble_eq_true rfl, Nat.le_of_ble_eq_true rfl⟩) ?_
  refine lv_istore_n (lv' := [(3, .int (iZ (wgt (xp x.toNat)))), (0, .ref r), (1, .int (iZ x)), (2, .int (iZ y))]) jx jb d_Mod_numberFor_9 rfl jl (by decide) rfl (fun ls jl => ?_)
  refine lv_iconst (v := iZ 0) jx jb d_Mod_numberFor_10 rfl ?_
  refine lv_istore (lv' := [(4, .int (iZ 0)), (3, .int (iZ (wgt (xp x.toNat)))), (0, .ref r), (1, .int (iZ x)), (2, .int (iZ y))]) jx jb d_Mod_numberFor_11 jl (by decide) rfl (fun ls jl => ?_)
  have hloop13 : ∀ (nF : Nat) (b1 : Nat), o + 1 - b1 < nF → (b1 ≤ o + 1) → (∀ n : Nat, n < b1 → ¬ (wgt (xp x.toNat) ≤ (y + 2 ^ o) / 2 ^ n ∧ (y + 2 ^ o) / 2 ^ n < 2 * wgt (xp x.toNat))) → ∀ ls : Array Slot, lv_has ls 6 [(0, .ref r), (1, .int (iZ x)), (2, .int (iZ y)), (3, .int (iZ (wgt (xp x.toNat)))), (4, .int (iZ (b1 : Int)))] → W p l e rm_M_numberFor s m args below meth c s.heap [] 0 0 Q (F0 m 13 ls []) := by
    intro nF
    induction nF with
    | zero => intro b1 hm; exact absurd hm (Nat.not_lt_zero _)
    | succ nF ih13 =>
      intro b1 hm hb1 h0 ls jl
      refine lv_iload jx jb d_Mod_numberFor_13 (lv_at jl 4 rfl) ?_
      refine lv_aload_n jx jb d_Mod_numberFor_15 rfl (lv_at jl 0 rfl) ?_
      refine va_get (D := D) (ci := 4) (v := .int (iZ (o : Int))) (C := R_Mod) (T := F_Mod) (N := 14) jx jb jts i_Mod jown jK.1 jP 0 rfl rfl 6 (by decide) (jts _ fl_Mod_50) (fun _ h9 => h9) rfl d_Mod_numberFor_16 ?_
      refine z_icmp_gt (tgt := 69) jx jb d_Mod_numberFor_19 (by decide) ⟨⟨by omega, by omega⟩, ⟨by omega, by omega⟩⟩ (fun hc19 => ?_) (fun hc19 => ?_)
      ·
        exfalso
        obtain ⟨n, hn, hn1, hn2⟩ := enc_ex (wh := y + 2 ^ o) (w := wgt (xp x.toNat)) (o := o) (by omega) (by omega) hw.1 hw.2
        exact h0 n (by omega) ⟨hn1, hn2⟩
      ·
        refine lv_iload_n jx jb d_Mod_numberFor_22 rfl (lv_at jl 2 rfl) ?_
        refine lv_iconst (v := iZ 1) jx jb d_Mod_numberFor_23 rfl ?_
        refine lv_aload_n jx jb d_Mod_numberFor_24 rfl (lv_at jl 0 rfl) ?_
        refine va_get (D := D) (ci := 4) (v := .int (iZ (o : Int))) (C := R_Mod) (T := F_Mod) (N := 14) jx jb jts i_Mod jown jK.1 jP 0 rfl rfl 6 (by decide) (jts _ fl_Mod_50) (fun _ h9 => h9) rfl d_Mod_numberFor_25 ?_
        refine z_ishl jx jb d_Mod_numberFor_28 o (2 ^ o) (rfl) (by omega) ?_
        refine z_top (2 ^ o) (Int.one_mul _) ?_
        refine z_iadd jx jb d_Mod_numberFor_29 ?_
        refine lv_iload jx jb d_Mod_numberFor_30 (lv_at jl 4 rfl) ?_
        refine z_ishr jx jb d_Mod_numberFor_32 b1 (2 ^ b1) (rfl) (by omega) ?_
        refine lv_istore (lv' := [(5, .int (iZ ((y + 2 ^ o) / (2 ^ b1)))), (0, .ref r), (1, .int (iZ x)), (2, .int (iZ y)), (3, .int (iZ (wgt (xp x.toNat)))), (4, .int (iZ (b1 : Int)))]) jx jb d_Mod_numberFor_33 jl (by decide) rfl (fun ls jl => ?_)
        refine lv_iload jx jb d_Mod_numberFor_35 (lv_at jl 0 rfl) ?_
        refine lv_iload_n jx jb d_Mod_numberFor_37 rfl (lv_at jl 4 rfl) ?_
        have hwd := wh_div (wh := y + 2 ^ o) (b := b1) (by omega)
        refine z_icmp_lt (tgt := 63) jx jb d_Mod_numberFor_38 (by decide) ⟨⟨by omega, by omega⟩, ⟨by omega, by omega⟩⟩ (fun hc38 => ?_) (fun hc38 => ?_)
        ·
          refine lv_iinc (v := iZ ((b1 : Int) + 1)) (lv' := [(4, .int (iZ ((b1 : Int) + 1))), (5, .int (iZ ((y + 2 ^ o) / (2 ^ b1)))), (0, .ref r), (1, .int (iZ x)), (2, .int (iZ y)), (3, .int (iZ (wgt (xp x.toNat))))]) jx jb d_Mod_numberFor_63 jl (k := 5) rfl (iZ_add _ _) (by decide) rfl (fun ls jl => ?_)
          refine lv_goto (tgt := 13) jx jb d_Mod_numberFor_66 (by decide) ?_
          exact ih13 (b1 + 1) (by omega) (by first | assumption | omega) (lt_s h0 (by omega)) _ (lv_sub jl [2, 3, 4, 5, 0] rfl)
        ·
          refine lv_iload jx jb d_Mod_numberFor_41 (lv_at jl 0 rfl) ?_
          refine lv_iconst (v := iZ 2) jx jb d_Mod_numberFor_43 rfl ?_
          refine lv_iload_n jx jb d_Mod_numberFor_44 rfl (lv_at jl 4 rfl) ?_
          refine z_imul jx jb d_Mod_numberFor_45 ?_
          refine z_icmp_ge (tgt := 63) jx jb d_Mod_numberFor_46 (by decide) ⟨⟨by omega, by omega⟩, ⟨by omega, by omega⟩⟩ (fun hc46 => ?_) (fun hc46 => ?_)
          ·
            refine lv_iinc (v := iZ ((b1 : Int) + 1)) (lv' := [(4, .int (iZ ((b1 : Int) + 1))), (5, .int (iZ ((y + 2 ^ o) / (2 ^ b1)))), (0, .ref r), (1, .int (iZ x)), (2, .int (iZ y)), (3, .int (iZ (wgt (xp x.toNat))))]) jx jb d_Mod_numberFor_63 jl (k := 5) rfl (iZ_add _ _) (by decide) rfl (fun ls jl => ?_)
            refine lv_goto (tgt := 13) jx jb d_Mod_numberFor_66 (by decide) ?_
            exact ih13 (b1 + 1) (by omega) (by first | assumption | omega) (lt_s h0 (by omega)) _ (lv_sub jl [2, 3, 4, 5, 0] rfl)
          ·
            refine lv_aload_n jx jb d_Mod_numberFor_49 rfl (lv_at jl 1 rfl) ?_
            refine lv_iload jx jb d_Mod_numberFor_50 (lv_at jl 0 rfl) ?_
            refine z_backe (va_runV (As := [.int (iZ ((y + 2 ^ o) / (2 ^ b1)))]) (rest := []) ⟨jx, jb, jml, jown, jts⟩ (c_M_bitsOf l D cI cB cZ r ri ro rc rp rs rd rk rh iL go oL o bP bR ((y + 2 ^ o) / (2 ^ b1)) (by first | assumption | omega) (by omega)) (zc_V 1 jts cd_Mod_bitsOf lk_Mod_112 im_Mod_bitsOf se_Mod_bitsOf in_Mod hd_Mod_bitsOf ⟨Nat.le_of_ble_eq_true rfl, Nat.le_of_ble_eq_true rfl⟩ rfl rfl) (z_preVR jK jP [0] rfl rfl rfl) rfl rfl jl.1 rfl (lv_room (Nat.le_of_ble_eq_true rfl)) d_Mod_numberFor_52 ⟨Nat.le_of_ble_eq_true rfl, Nat.le_of_ble_eq_true rfl⟩) ?_
            have hzd := zlog_div (wh := y + 2 ^ o) (o := o) (b := b1) (by omega) (by omega) (by omega)
            refine lv_iload jx jb d_Mod_numberFor_55 (lv_at jl 5 rfl) ?_
            refine z_icmp_ne (tgt := 63) jx jb d_Mod_numberFor_57 (by decide) ⟨⟨by omega, by omega⟩, ⟨by omega, by omega⟩⟩ (fun hc57 => ?_) (fun hc57 => ?_)
            ·
              exact absurd hc57 (by rw [hzd]; omega)
            ·
              refine lv_iload jx jb d_Mod_numberFor_60 (lv_at jl 0 rfl) ?_
              exact jret _ _ _ (Or.inl rfl) (⟨b1, by omega, rfl, by omega, by omega⟩) d_Mod_numberFor_62
  exact hloop13 ((o + 1 - 0) + 1) 0 (Nat.lt_succ_self _) (by first | assumption | omega) (fun n h => absurd h (by omega)) _ (lv_sub jl [2, 3, 4, 1, 0] rfl)
abbrev rm_M_cell : Room := { frames := 2, cells := 0, slots := 0, locals := 43 }
set_option maxHeartbeats 4000000 in
set_option maxRecDepth 100000 in
theorem c_M_cell (l : Launch) (D : va_G) (cI cB cZ : ClassId) (r : Nat) (ri : Nat) (ro : Nat) (rc : Nat) (rp : Nat) (rs : Nat) (rd : Nat) (rk : Nat) (rh : Nat) (iL : Int) (go : Int) (oL : Int) (o : Nat) (bP : Int) (bR : Int) (xp : Nat → Int) (xs : Nat → Int) (k : Int) (x : Int) (ho : o ≤ 12) (hpr : ∀ k, k < 256 → -1 ≤ xp k ∧ xp k ≤ 65536) (hxs : ∀ k, k < 4096 → 0 ≤ xs k ∧ xs k < 256) (hk : -2147483648 ≤ k ∧ k < 2147483648) (hx1 : -2147483648 ≤ x ∧ x < 2147483648) (hnum : ∀ j : Nat, (j : Int) < 2 ^ o → 1 ≤ wgt (xp (xs j).toNat) + cntS xs (xs j) j ∧ wgt (xp (xs j).toNat) + cntS xs (xs j) j < 2 ^ (o + 1)) : Met l y_Mod_cell (.code y_Mod_cell b_Mod_cell 3 (some .int) :: zT) rm_M_cell (zRc D classes (TY cI cB cZ) [(r, .inr (4, [.ref ri, .int (iZ iL), .int (iZ go), .ref ro, .int (iZ oL), .ref rc, .int (iZ (o : Int)), .ref rp, .ref rs, .ref rd, .ref rk, .ref rh, .int (iZ bP), .int (iZ bR)])), (rp, .inl (cI, 256, .inl (zA xp))), (rs, .inl (cI, 4096, .inl (zA xs)))] [.ref r, .int (iZ k), .int (iZ x)]) (zSi (fun z => z = cellAns o xs (fun j => (o : Int) - (zlog (wgt (xp (xs j).toNat) + cntS xs (xs j) j) : Int)) (fun j => (wgt (xp (xs j).toNat) + cntS xs (xs j) j) * 2 ^ (o - zlog (wgt (xp (xs j).toNat) + cntS xs (xs j) j)) - 2 ^ o) k x)) 0 0 (fun _ => False) := by
  refine z_ofr (by decide) (Nat.le_of_ble_eq_true rfl) (Or.inl rfl) ?_
  intro p e s m args below meth c Q E jP jK jret ls jl
  obtain ⟨jx, jb, jrt, jml, jown, jts, jlk⟩ := E
  have jown : s.vm.findClass R_Mod = some m.cls := jown
  have hp12 := p2_le ho
  have hp0 := p2_pos o
  have hps := p2_s o
  have jl : lv_has ls 3 [(0, .ref r), (1, .int (iZ k)), (2, .int (iZ x))] := jl
  refine lv_aload_n jx jb d_Mod_cell_0 rfl (lv_at jl 0 rfl) ?_
  refine va_get (D := D) (ci := 4) (v := .int (iZ (o : Int))) (C := R_Mod) (T := F_Mod) (N := 14) jx jb jts i_Mod jown jK.1 jP 0 rfl rfl 6 (by decide) (jts _ fl_Mod_50) (fun _ h9 => h9) rfl d_Mod_cell_1 ?_
  refine z_if_eq (tgt := 30) jx jb d_Mod_cell_4 (by decide) ⟨by omega, by omega⟩ (fun hc4 => ?_) (fun hc4 => ?_)
  ·
    refine lv_iconst (v := iZ (-1)) jx jb d_Mod_cell_30 rfl ?_
    exact jret _ _ _ (Or.inl rfl) (by first | exact (cellAns_no (by omega)).symm | exact (cellAns_x (by omega)).symm) d_Mod_cell_31
  ·
    refine lv_iload_n jx jb d_Mod_cell_7 rfl (lv_at jl 1 rfl) ?_
    refine z_if_lt (tgt := 30) jx jb d_Mod_cell_8 (by decide) ⟨by omega, by omega⟩ (fun hc8 => ?_) (fun hc8 => ?_)
    ·
      refine lv_iconst (v := iZ (-1)) jx jb d_Mod_cell_30 rfl ?_
      exact jret _ _ _ (Or.inl rfl) (by first | exact (cellAns_no (by omega)).symm | exact (cellAns_x (by omega)).symm) d_Mod_cell_31
    ·
      refine lv_iload_n jx jb d_Mod_cell_11 rfl (lv_at jl 1 rfl) ?_
      refine lv_iconst (v := iZ 1) jx jb d_Mod_cell_12 rfl ?_
      refine lv_aload_n jx jb d_Mod_cell_13 rfl (lv_at jl 0 rfl) ?_
      refine va_get (D := D) (ci := 4) (v := .int (iZ (o : Int))) (C := R_Mod) (T := F_Mod) (N := 14) jx jb jts i_Mod jown jK.1 jP 0 rfl rfl 6 (by decide) (jts _ fl_Mod_50) (fun _ h9 => h9) rfl d_Mod_cell_14 ?_
      refine z_ishl jx jb d_Mod_cell_17 o (2 ^ o) (rfl) (by omega) ?_
      refine z_top (2 ^ o) (Int.one_mul _) ?_
      refine z_icmp_ge (tgt := 30) jx jb d_Mod_cell_18 (by decide) ⟨⟨by omega, by omega⟩, ⟨by omega, by omega⟩⟩ (fun hc18 => ?_) (fun hc18 => ?_)
      ·
        refine lv_iconst (v := iZ (-1)) jx jb d_Mod_cell_30 rfl ?_
        exact jret _ _ _ (Or.inl rfl) (by first | exact (cellAns_no (by omega)).symm | exact (cellAns_x (by omega)).symm) d_Mod_cell_31
      ·
        refine lv_iload_n jx jb d_Mod_cell_21 rfl (lv_at jl 2 rfl) ?_
        refine z_if_lt (tgt := 30) jx jb d_Mod_cell_22 (by decide) ⟨by omega, by omega⟩ (fun hc22 => ?_) (fun hc22 => ?_)
        ·
          refine lv_iconst (v := iZ (-1)) jx jb d_Mod_cell_30 rfl ?_
          exact jret _ _ _ (Or.inl rfl) (by first | exact (cellAns_no (by omega)).symm | exact (cellAns_x (by omega)).symm) d_Mod_cell_31
        ·
          refine lv_iload_n jx jb d_Mod_cell_25 rfl (lv_at jl 2 rfl) ?_
          refine lv_iconst (v := iZ 2) jx jb d_Mod_cell_26 rfl ?_
          refine z_icmp_le (tgt := 32) jx jb d_Mod_cell_27 (by decide) ⟨⟨by omega, by omega⟩, ⟨by decide, by decide⟩⟩ (fun hc27 => ?_) (fun hc27 => ?_)
          ·
            have hnk := hnum k.toNat (by omega)
            refine lv_iload_n jx jb d_Mod_cell_32 rfl (lv_at jl 2 rfl) ?_
            refine z_if_ne (tgt := 45) jx jb d_Mod_cell_33 (by decide) ⟨by omega, by omega⟩ (fun hc33 => ?_) (fun hc33 => ?_)
            ·
              refine lv_iload_n jx jb d_Mod_cell_45 rfl (lv_at jl 2 rfl) ?_
              refine lv_iconst (v := iZ 1) jx jb d_Mod_cell_46 rfl ?_
              refine z_icmp_ne (tgt := 62) jx jb d_Mod_cell_47 (by decide) ⟨⟨by omega, by omega⟩, ⟨by decide, by decide⟩⟩ (fun hc47 => ?_) (fun hc47 => ?_)
              ·
                refine lv_aload_n jx jb d_Mod_cell_62 rfl (lv_at jl 0 rfl) ?_
                refine lv_aload_n jx jb d_Mod_cell_63 rfl (lv_at jl 0 rfl) ?_
                refine lv_iload_n jx jb d_Mod_cell_64 rfl (lv_at jl 1 rfl) ?_
                refine z_top ((k.toNat : Nat) : Int) (by omega) ?_
                refine z_backe (va_runV (As := [.int (iZ ((k.toNat : Nat) : Int))]) (rest := [.ref r]) ⟨jx, jb, jml, jown, jts⟩ (c_M_numberOf l D cI cB cZ r ri ro rc rp rs rd rk rh iL go oL o bP bR xp xs (k.toNat : Nat) (by first | assumption | omega) (by first | assumption | omega) (by first | assumption | omega)) (zc_V 1 jts cd_Mod_numberOf lk_Mod_115 im_Mod_numberOf se_Mod_numberOf in_Mod hd_Mod_numberOf ⟨Nat.le_of_ble_eq_true rfl, Nat.le_of_ble_eq_true rfl⟩ rfl rfl) (z_preVR jK jP [0, 1, 2] rfl rfl rfl) rfl rfl jl.1 rfl (lv_room (Nat.le_of_ble_eq_true rfl)) d_Mod_cell_65 ⟨Nat.le_of_ble_eq_true rfl, Nat.le_of_ble_eq_true rfl⟩) ?_
                refine z_backe (va_runV (As := [.int (iZ (wgt (xp (xs (k.toNat : Nat)).toNat) + cntS xs (xs (k.toNat : Nat)) (k.toNat : Nat)))]) (rest := []) ⟨jx, jb, jml, jown, jts⟩ (c_M_baseOf l D cI cB cZ r ri ro rc rp rs rd rk rh iL go oL o bP bR (wgt (xp (xs (k.toNat : Nat)).toNat) + cntS xs (xs (k.toNat : Nat)) (k.toNat : Nat)) (by first | assumption | omega) (by first | assumption | omega)) (zc_V 1 jts cd_Mod_baseOf lk_Mod_118 im_Mod_baseOf se_Mod_baseOf in_Mod hd_Mod_baseOf ⟨Nat.le_of_ble_eq_true rfl, Nat.le_of_ble_eq_true rfl⟩ rfl rfl) (z_preVR jK jP [0] rfl rfl rfl) rfl rfl jl.1 rfl (lv_room (Nat.le_of_ble_eq_true rfl)) d_Mod_cell_68 ⟨Nat.le_of_ble_eq_true rfl, Nat.le_of_ble_eq_true rfl⟩) ?_
                exact jret _ _ _ (Or.inl rfl) (by first | rw [cellAns_0 (by omega) (by omega)] | rw [cellAns_1 (by omega) (by omega)] | rw [cellAns_2 (by omega) (by omega)]) d_Mod_cell_71
              ·
                refine lv_aload_n jx jb d_Mod_cell_50 rfl (lv_at jl 0 rfl) ?_
                refine lv_aload_n jx jb d_Mod_cell_51 rfl (lv_at jl 0 rfl) ?_
                refine lv_iload_n jx jb d_Mod_cell_52 rfl (lv_at jl 1 rfl) ?_
                refine z_top ((k.toNat : Nat) : Int) (by omega) ?_
                refine z_backe (va_runV (As := [.int (iZ ((k.toNat : Nat) : Int))]) (rest := [.ref r]) ⟨jx, jb, jml, jown, jts⟩ (c_M_numberOf l D cI cB cZ r ri ro rc rp rs rd rk rh iL go oL o bP bR xp xs (k.toNat : Nat) (by first | assumption | omega) (by first | assumption | omega) (by first | assumption | omega)) (zc_V 1 jts cd_Mod_numberOf lk_Mod_115 im_Mod_numberOf se_Mod_numberOf in_Mod hd_Mod_numberOf ⟨Nat.le_of_ble_eq_true rfl, Nat.le_of_ble_eq_true rfl⟩ rfl rfl) (z_preVR jK jP [0, 1, 2] rfl rfl rfl) rfl rfl jl.1 rfl (lv_room (Nat.le_of_ble_eq_true rfl)) d_Mod_cell_53 ⟨Nat.le_of_ble_eq_true rfl, Nat.le_of_ble_eq_true rfl⟩) ?_
                refine z_backe (va_runV (As := [.int (iZ (wgt (xp (xs (k.toNat : Nat)).toNat) + cntS xs (xs (k.toNat : Nat)) (k.toNat : Nat)))]) (rest := []) ⟨jx, jb, jml, jown, jts⟩ (c_M_bitsOf l D cI cB cZ r ri ro rc rp rs rd rk rh iL go oL o bP bR (wgt (xp (xs (k.toNat : Nat)).toNat) + cntS xs (xs (k.toNat : Nat)) (k.toNat : Nat)) (by first | assumption | omega) (by first | assumption | omega)) (zc_V 1 jts cd_Mod_bitsOf lk_Mod_112 im_Mod_bitsOf se_Mod_bitsOf in_Mod hd_Mod_bitsOf ⟨Nat.le_of_ble_eq_true rfl, Nat.le_of_ble_eq_true rfl⟩ rfl rfl) (z_preVR jK jP [0] rfl rfl rfl) rfl rfl jl.1 rfl (lv_room (Nat.le_of_ble_eq_true rfl)) d_Mod_cell_56 ⟨Nat.le_of_ble_eq_true rfl, Nat.le_of_ble_eq_true rfl⟩) ?_
                refine lv_goto (tgt := 71) jx jb d_Mod_cell_59 (by decide) ?_
                exact jret _ _ _ (Or.inl rfl) (by first | rw [cellAns_0 (by omega) (by omega)] | rw [cellAns_1 (by omega) (by omega)] | rw [cellAns_2 (by omega) (by omega)]) d_Mod_cell_71
            ·
              refine lv_aload_n jx jb d_Mod_cell_36 rfl (lv_at jl 0 rfl) ?_
              refine va_get (D := D) (ci := 4) (v := .ref rs) (C := R_Mod) (T := F_Mod) (N := 14) jx jb jts i_Mod jown jK.1 jP 0 rfl rfl 8 (by decide) (jts _ fl_Mod_22) (fun _ h9 => h9) rfl d_Mod_cell_37 ?_
              refine lv_iload_n jx jb d_Mod_cell_40 rfl (lv_at jl 1 rfl) ?_
              refine z_iald jx jb jK.1 jP 2 0 rfl rfl k.toNat (by omega) d_Mod_cell_41 ?_
              refine lv_goto (tgt := 71) jx jb d_Mod_cell_42 (by decide) ?_
              exact jret _ _ _ (Or.inl rfl) (by first | rw [cellAns_0 (by omega) (by omega)] | rw [cellAns_1 (by omega) (by omega)] | rw [cellAns_2 (by omega) (by omega)]) d_Mod_cell_71
          ·
            refine lv_iconst (v := iZ (-1)) jx jb d_Mod_cell_30 rfl ?_
            exact jret _ _ _ (Or.inl rfl) (by first | exact (cellAns_no (by omega)).symm | exact (cellAns_x (by omega)).symm) d_Mod_cell_31
end
section
/-! an unsigned shift of a long, of which a byte is taken -/
theorem lZ_u : ∀ n : Fin 64, ((iZ (n : Nat)).toInt64.toUInt64 &&& Int64.toUInt64 63).toNat % 64 = (n : Nat) := by decide +kernel
theorem lZ_c (x : Int64) : ∃ c : Int, x.toInt = (x.toBitVec.toNat : Int) - c * 18446744073709551616 := by
  have h : x.toInt = if 2 * x.toBitVec.toNat < 2 ^ 64 then (x.toBitVec.toNat : Int) else (x.toBitVec.toNat : Int) - (2 ^ 64 : Nat) := BitVec.toInt_eq_toNat_cond x.toBitVec
  by_cases q : 2 * x.toBitVec.toNat < 2 ^ 64
  · rw [if_pos q] at h
    exact ⟨0, by omega⟩
  · rw [if_neg q] at h
    exact ⟨1, by omega⟩
theorem lZ_ushr (x : Int64) {n : Nat} (hn : n ≤ 56) : (x.toUInt64 >>> ((iZ n).toInt64.toUInt64 &&& Int64.toUInt64 63)).toInt64.toInt % 256 = x.toInt / 2 ^ n % 256 := by
  obtain ⟨c1, h1⟩ := lZ_c ((x.toUInt64 >>> ((iZ n).toInt64.toUInt64 &&& Int64.toUInt64 63)).toInt64)
  obtain ⟨c2, h2⟩ := lZ_c x
  have h3 : ((x.toUInt64 >>> ((iZ n).toInt64.toUInt64 &&& Int64.toUInt64 63)).toInt64).toBitVec.toNat = x.toBitVec.toNat / 2 ^ n := by
    show (x.toUInt64 >>> ((iZ n).toInt64.toUInt64 &&& Int64.toUInt64 63)).toNat = _
    rw [UInt64.toNat_shiftRight, lZ_u ⟨n, by omega⟩, Nat.shiftRight_eq_div_pow]
    rfl
  rw [h3] at h1
  have e : (18446744073709551616 : Int) = 256 * 2 ^ (56 - n) * 2 ^ n := by
    rw [show (256 : Int) = 2 ^ 8 from rfl, ← Int.pow_add, ← Int.pow_add, show 8 + (56 - n) + n = 64 by omega]
    rfl
  have e2 : x.toInt / 2 ^ n = (x.toBitVec.toNat : Int) / 2 ^ n + (-c2 * 2 ^ (56 - n)) * 256 := by
    have e3 : x.toInt = (x.toBitVec.toNat : Int) + (-c2 * 2 ^ (56 - n) * 256) * 2 ^ n := by
      rw [h2, e, Int.sub_eq_add_neg, ← Int.neg_mul, ← Int.mul_assoc, Int.mul_comm 256, ← Int.mul_assoc]
    rw [e3, Int.add_mul_ediv_right _ _ (Int.ne_of_gt (p2_pos n))]
  rw [h1, e2, Int.add_mul_emod_self_right, Int.natCast_ediv, p2n]
  omega
section ZUSHR
variable {p : Program} {l : Launch} {e : Env} {R : Room} {s : State} {m : MethodId} {args : Array Value} {below : List Frame} {meth : Method} {c : Code} {H : Heap} {locs : List Loc} {cells slots : Nat} {Q : State → Prop}
variable {cc : ByteArray} {pc : Nat} {ls : Array Slot} {rest : List Value} {a : Int} {x : Int64}
theorem z_lushr (hx : p.tables.exec = Jvm.exec) (hb : c.code = cc) (hdg : decode cc pc = .ok (.lushr, 1)) (n : Nat) (h : a = n ∧ n ≤ 56)
    (k : ∀ v : Int64, v.toInt % 256 = x.toInt / 2 ^ n % 256 → W p l e R s m args below meth c H locs cells slots Q (F0 m (pc + 1) ls (.long v :: rest))) : W p l e R s m args below meth c H locs cells slots Q (F0 m pc ls (.int (iZ a) :: .long x :: rest)) := by
  obtain ⟨rfl, h2⟩ := h
  exact lv_lushr hx hb hdg rfl (k _ (lZ_ushr x h2))
end ZUSHR
/-- the reference writes a long's bytes: d of n are left -/
def wrM (f f2 : Nat → Int) (L L2 n : Int) (d : Nat) (x : Int64) : Prop := (0 ≤ L ∧ L2 = L + n - d ∧ L + n ≤ 6000 ∧ 0 ≤ n ∧ (d : Int) ≤ n) ∧ (∀ k, k < 6000 → 0 ≤ f2 k ∧ f2 k < 256) ∧ (∀ k : Nat, (k : Int) < L → f2 k = f k) ∧ ∀ j : Nat, (j : Int) < n - d → f2 (L.toNat + j) = wbyte x (n - 1 - j).toNat
theorem wrM_0 {f : Nat → Int} {L n : Int} {x : Int64} (h1 : 1 ≤ n) (h2 : 0 ≤ L) (h3 : L + n ≤ 6000) (hf : ∀ k, k < 6000 → 0 ≤ f k ∧ f k < 256) : wrM f f L L n n.toNat x :=
  ⟨by omega, hf, fun _ _ => rfl, fun j hj => absurd hj (by omega)⟩
theorem wrM_s {f f2 : Nat → Int} {L L2 n : Int} {d : Nat} {x : Int64} (h : wrM f f2 L L2 n d x) (h1 : 1 ≤ n) (hd : 1 ≤ d) : wrM f (zu f2 L2.toNat (wbyte x (d - 1))) L (L2 + 1) n (d - 1) x := by
  obtain ⟨a, b, c, e⟩ := h
  refine ⟨by omega, fun k hk6 => ?_, fun k hk => ?_, fun j hj => ?_⟩
  · by_cases hk : k = L2.toNat
    · subst hk
      rw [zu_s]
      exact ⟨wbyte_lo _ _, wbyte_hi _ _⟩
    · rw [zu_n hk]
      exact b k hk6
  · rw [zu_n (by omega)]
    exact c k hk
  · by_cases hj2 : (j : Int) < n - d
    · rw [zu_n (by omega)]
      exact e j hj2
    · rw [show L.toNat + j = L2.toNat by omega, zu_s, show (n - 1 - (j : Int)).toNat = d - 1 by omega]
theorem wrM_end {f f2 : Nat → Int} {L L2 n : Int} {d : Nat} {x : Int64} (h : wrM f f2 L L2 n d x) (hd : d = 0) : L2 = L + n ∧ (∀ k, k < 6000 → 0 ≤ f2 k ∧ f2 k < 256) ∧ (∀ k : Nat, (k : Int) < L → f2 k = f k) ∧ ∀ j : Nat, (j : Int) < n → f2 (L.toNat + j) = wbyte x (n - 1 - j).toNat := by
  subst hd
  obtain ⟨a, b, c, e⟩ := h
  exact ⟨by omega, b, c, fun j hj => e j (by omega)⟩
/-- counting bytes from a place on -/
def cnB (b : Nat → Int) (a n s : Nat) : Int := cntS (fun j => b (a + j)) s n
theorem cnB_s {b g : Nat → Int} {a n : Nat} (h : ∀ s, s < 256 → g s = cnB b a n s) (hb : 0 ≤ b (a + n) ∧ b (a + n) < 256) : ∀ s, s < 256 → zu g (b (a + n)).toNat (g (b (a + n)).toNat + 1) s = cnB b a (n + 1) s := by
  intro s hs
  show _ = cntS (fun j => b (a + j)) s n + (if b (a + n) = (s : Int) then 1 else 0)
  by_cases e : s = (b (a + n)).toNat
  · subst e
    rw [zu_s, h _ hs, if_pos (by omega)]
    rfl
  · rw [zu_n e, h s hs, if_neg (by omega), Int.add_zero]
    rfl
theorem cntS_congr {g g2 : Nat → Int} {v : Int} : ∀ {n : Nat}, (∀ k, k < n → g k = g2 k) → cntS g v n = cntS g2 v n
  | 0, _ => rfl
  | n + 1, h => by
    show cntS g v n + (if g n = v then 1 else 0) = cntS g2 v n + (if g2 n = v then 1 else 0)
    rw [cntS_congr (fun k hk => h k (by omega)), h n (by omega)]
end
section
theorem fl_Mod_25 : Cond.fieldLink R_Mod 25 "StateCoderModel" "draft" "[I" ∈ zT := zT_of (List.mem_of_getElem? (i := 491) (by decide +kernel)) rfl
theorem d_Mod_write_0 : decode b_Mod_write 0 = .ok (.iload_n 3, 1) := by decide +kernel
theorem d_Mod_write_1 : decode b_Mod_write 1 = .ok (.iconst 1, 1) := by decide +kernel
theorem d_Mod_write_2 : decode b_Mod_write 2 = .ok (.if_icmp .lt 21, 3) := by decide +kernel
theorem d_Mod_write_5 : decode b_Mod_write 5 = .ok (.iload_n 3, 1) := by decide +kernel
theorem d_Mod_write_6 : decode b_Mod_write 6 = .ok (.bipush 8, 2) := by decide +kernel
theorem d_Mod_write_8 : decode b_Mod_write 8 = .ok (.if_icmp .gt 15, 3) := by decide +kernel
theorem d_Mod_write_11 : decode b_Mod_write 11 = .ok (.aload_n 0, 1) := by decide +kernel
theorem d_Mod_write_12 : decode b_Mod_write 12 = .ok (.getfield 35, 3) := by decide +kernel
theorem d_Mod_write_15 : decode b_Mod_write 15 = .ok (.iload_n 3, 1) := by decide +kernel
theorem d_Mod_write_16 : decode b_Mod_write 16 = .ok (.iadd, 1) := by decide +kernel
theorem d_Mod_write_17 : decode b_Mod_write 17 = .ok (.sipush 6000, 3) := by decide +kernel
theorem d_Mod_write_20 : decode b_Mod_write 20 = .ok (.if_icmp .le 5, 3) := by decide +kernel
theorem d_Mod_write_23 : decode b_Mod_write 23 = .ok (.iconst 0, 1) := by decide +kernel
theorem d_Mod_write_24 : decode b_Mod_write 24 = .ok (.ireturn, 1) := by decide +kernel
theorem d_Mod_write_25 : decode b_Mod_write 25 = .ok (.iload_n 3, 1) := by decide +kernel
theorem d_Mod_write_26 : decode b_Mod_write 26 = .ok (.iconst 1, 1) := by decide +kernel
theorem d_Mod_write_27 : decode b_Mod_write 27 = .ok (.isub, 1) := by decide +kernel
theorem d_Mod_write_28 : decode b_Mod_write 28 = .ok (.istore 4, 2) := by decide +kernel
theorem d_Mod_write_30 : decode b_Mod_write 30 = .ok (.iload 4, 2) := by decide +kernel
theorem d_Mod_write_32 : decode b_Mod_write 32 = .ok (.ifCond .lt 40, 3) := by decide +kernel
theorem d_Mod_write_35 : decode b_Mod_write 35 = .ok (.aload_n 0, 1) := by decide +kernel
theorem d_Mod_write_36 : decode b_Mod_write 36 = .ok (.getfield 7, 3) := by decide +kernel
theorem d_Mod_write_39 : decode b_Mod_write 39 = .ok (.aload_n 0, 1) := by decide +kernel
theorem d_Mod_write_40 : decode b_Mod_write 40 = .ok (.getfield 35, 3) := by decide +kernel
theorem d_Mod_write_43 : decode b_Mod_write 43 = .ok (.lload_n 1, 1) := by decide +kernel
theorem d_Mod_write_44 : decode b_Mod_write 44 = .ok (.bipush 8, 2) := by decide +kernel
theorem d_Mod_write_46 : decode b_Mod_write 46 = .ok (.iload 4, 2) := by decide +kernel
theorem d_Mod_write_48 : decode b_Mod_write 48 = .ok (.imul, 1) := by decide +kernel
theorem d_Mod_write_49 : decode b_Mod_write 49 = .ok (.lushr, 1) := by decide +kernel
theorem d_Mod_write_50 : decode b_Mod_write 50 = .ok (.l2i, 1) := by decide +kernel
theorem d_Mod_write_51 : decode b_Mod_write 51 = .ok (.sipush 255, 3) := by decide +kernel
theorem d_Mod_write_54 : decode b_Mod_write 54 = .ok (.iand, 1) := by decide +kernel
theorem d_Mod_write_55 : decode b_Mod_write 55 = .ok (.iastore, 1) := by decide +kernel
theorem d_Mod_write_56 : decode b_Mod_write 56 = .ok (.aload_n 0, 1) := by decide +kernel
theorem d_Mod_write_57 : decode b_Mod_write 57 = .ok (.dup, 1) := by decide +kernel
theorem d_Mod_write_58 : decode b_Mod_write 58 = .ok (.getfield 35, 3) := by decide +kernel
theorem d_Mod_write_61 : decode b_Mod_write 61 = .ok (.iconst 1, 1) := by decide +kernel
theorem d_Mod_write_62 : decode b_Mod_write 62 = .ok (.iadd, 1) := by decide +kernel
theorem d_Mod_write_63 : decode b_Mod_write 63 = .ok (.putfield 35, 3) := by decide +kernel
theorem d_Mod_write_66 : decode b_Mod_write 66 = .ok (.iinc 4 (-1), 3) := by decide +kernel
theorem d_Mod_write_69 : decode b_Mod_write 69 = .ok (.goto (-39), 3) := by decide +kernel
theorem d_Mod_write_72 : decode b_Mod_write 72 = .ok (.iconst 1, 1) := by decide +kernel
theorem d_Mod_write_73 : decode b_Mod_write 73 = .ok (.ireturn, 1) := by decide +kernel
theorem d_Mod_turn_0 : decode b_Mod_turn 0 = .ok (.iconst 0, 1) := by decide +kernel
theorem d_Mod_turn_1 : decode b_Mod_turn 1 = .ok (.istore_n 1, 1) := by decide +kernel
theorem d_Mod_turn_2 : decode b_Mod_turn 2 = .ok (.iload_n 1, 1) := by decide +kernel
theorem d_Mod_turn_3 : decode b_Mod_turn 3 = .ok (.aload_n 0, 1) := by decide +kernel
theorem d_Mod_turn_4 : decode b_Mod_turn 4 = .ok (.getfield 39, 3) := by decide +kernel
theorem d_Mod_turn_7 : decode b_Mod_turn 7 = .ok (.if_icmp .ge 21, 3) := by decide +kernel
theorem d_Mod_turn_10 : decode b_Mod_turn 10 = .ok (.aload_n 0, 1) := by decide +kernel
theorem d_Mod_turn_11 : decode b_Mod_turn 11 = .ok (.getfield 7, 3) := by decide +kernel
theorem d_Mod_turn_14 : decode b_Mod_turn 14 = .ok (.iload_n 1, 1) := by decide +kernel
theorem d_Mod_turn_15 : decode b_Mod_turn 15 = .ok (.aload_n 0, 1) := by decide +kernel
theorem d_Mod_turn_16 : decode b_Mod_turn 16 = .ok (.getfield 13, 3) := by decide +kernel
theorem d_Mod_turn_19 : decode b_Mod_turn 19 = .ok (.iload_n 1, 1) := by decide +kernel
theorem d_Mod_turn_20 : decode b_Mod_turn 20 = .ok (.iaload, 1) := by decide +kernel
theorem d_Mod_turn_21 : decode b_Mod_turn 21 = .ok (.iastore, 1) := by decide +kernel
theorem d_Mod_turn_22 : decode b_Mod_turn 22 = .ok (.iinc 1 1, 3) := by decide +kernel
theorem d_Mod_turn_25 : decode b_Mod_turn 25 = .ok (.goto (-23), 3) := by decide +kernel
theorem d_Mod_turn_28 : decode b_Mod_turn 28 = .ok (.aload_n 0, 1) := by decide +kernel
theorem d_Mod_turn_29 : decode b_Mod_turn 29 = .ok (.aload_n 0, 1) := by decide +kernel
theorem d_Mod_turn_30 : decode b_Mod_turn 30 = .ok (.getfield 39, 3) := by decide +kernel
theorem d_Mod_turn_33 : decode b_Mod_turn 33 = .ok (.putfield 35, 3) := by decide +kernel
theorem d_Mod_turn_36 : decode b_Mod_turn 36 = .ok (.aload_n 0, 1) := by decide +kernel
theorem d_Mod_turn_37 : decode b_Mod_turn 37 = .ok (.iconst 0, 1) := by decide +kernel
theorem d_Mod_turn_38 : decode b_Mod_turn 38 = .ok (.putfield 42, 3) := by decide +kernel
theorem d_Mod_turn_41 : decode b_Mod_turn 41 = .ok (.return_, 1) := by decide +kernel
theorem d_Mod_clear_0 : decode b_Mod_clear 0 = .ok (.aload_n 0, 1) := by decide +kernel
theorem d_Mod_clear_1 : decode b_Mod_clear 1 = .ok (.iconst 0, 1) := by decide +kernel
theorem d_Mod_clear_2 : decode b_Mod_clear 2 = .ok (.putfield 35, 3) := by decide +kernel
theorem d_Mod_clear_5 : decode b_Mod_clear 5 = .ok (.aload_n 0, 1) := by decide +kernel
theorem d_Mod_clear_6 : decode b_Mod_clear 6 = .ok (.iconst 0, 1) := by decide +kernel
theorem d_Mod_clear_7 : decode b_Mod_clear 7 = .ok (.putfield 42, 3) := by decide +kernel
theorem d_Mod_clear_10 : decode b_Mod_clear 10 = .ok (.iconst 0, 1) := by decide +kernel
theorem d_Mod_clear_11 : decode b_Mod_clear 11 = .ok (.istore_n 1, 1) := by decide +kernel
theorem d_Mod_clear_12 : decode b_Mod_clear 12 = .ok (.iload_n 1, 1) := by decide +kernel
theorem d_Mod_clear_13 : decode b_Mod_clear 13 = .ok (.sipush 256, 3) := by decide +kernel
theorem d_Mod_clear_16 : decode b_Mod_clear 16 = .ok (.if_icmp .ge 16, 3) := by decide +kernel
theorem d_Mod_clear_19 : decode b_Mod_clear 19 = .ok (.aload_n 0, 1) := by decide +kernel
theorem d_Mod_clear_20 : decode b_Mod_clear 20 = .ok (.getfield 16, 3) := by decide +kernel
theorem d_Mod_clear_23 : decode b_Mod_clear 23 = .ok (.iload_n 1, 1) := by decide +kernel
theorem d_Mod_clear_24 : decode b_Mod_clear 24 = .ok (.iconst 0, 1) := by decide +kernel
theorem d_Mod_clear_25 : decode b_Mod_clear 25 = .ok (.iastore, 1) := by decide +kernel
theorem d_Mod_clear_26 : decode b_Mod_clear 26 = .ok (.iinc 1 1, 3) := by decide +kernel
theorem d_Mod_clear_29 : decode b_Mod_clear 29 = .ok (.goto (-17), 3) := by decide +kernel
theorem d_Mod_clear_32 : decode b_Mod_clear 32 = .ok (.return_, 1) := by decide +kernel
theorem d_Mod_countAll_0 : decode b_Mod_countAll 0 = .ok (.iconst 0, 1) := by decide +kernel
theorem d_Mod_countAll_1 : decode b_Mod_countAll 1 = .ok (.istore_n 1, 1) := by decide +kernel
theorem d_Mod_countAll_2 : decode b_Mod_countAll 2 = .ok (.iload_n 1, 1) := by decide +kernel
theorem d_Mod_countAll_3 : decode b_Mod_countAll 3 = .ok (.sipush 256, 3) := by decide +kernel
theorem d_Mod_countAll_6 : decode b_Mod_countAll 6 = .ok (.if_icmp .ge 16, 3) := by decide +kernel
theorem d_Mod_countAll_9 : decode b_Mod_countAll 9 = .ok (.aload_n 0, 1) := by decide +kernel
theorem d_Mod_countAll_10 : decode b_Mod_countAll 10 = .ok (.getfield 16, 3) := by decide +kernel
theorem d_Mod_countAll_13 : decode b_Mod_countAll 13 = .ok (.iload_n 1, 1) := by decide +kernel
theorem d_Mod_countAll_14 : decode b_Mod_countAll 14 = .ok (.iconst 0, 1) := by decide +kernel
theorem d_Mod_countAll_15 : decode b_Mod_countAll 15 = .ok (.iastore, 1) := by decide +kernel
theorem d_Mod_countAll_16 : decode b_Mod_countAll 16 = .ok (.iinc 1 1, 3) := by decide +kernel
theorem d_Mod_countAll_19 : decode b_Mod_countAll 19 = .ok (.goto (-17), 3) := by decide +kernel
theorem d_Mod_countAll_22 : decode b_Mod_countAll 22 = .ok (.aload_n 0, 1) := by decide +kernel
theorem d_Mod_countAll_23 : decode b_Mod_countAll 23 = .ok (.getfield 42, 3) := by decide +kernel
theorem d_Mod_countAll_26 : decode b_Mod_countAll 26 = .ok (.istore_n 1, 1) := by decide +kernel
theorem d_Mod_countAll_27 : decode b_Mod_countAll 27 = .ok (.iload_n 1, 1) := by decide +kernel
theorem d_Mod_countAll_28 : decode b_Mod_countAll 28 = .ok (.aload_n 0, 1) := by decide +kernel
theorem d_Mod_countAll_29 : decode b_Mod_countAll 29 = .ok (.getfield 35, 3) := by decide +kernel
theorem d_Mod_countAll_32 : decode b_Mod_countAll 32 = .ok (.if_icmp .ge 24, 3) := by decide +kernel
theorem d_Mod_countAll_35 : decode b_Mod_countAll 35 = .ok (.aload_n 0, 1) := by decide +kernel
theorem d_Mod_countAll_36 : decode b_Mod_countAll 36 = .ok (.getfield 16, 3) := by decide +kernel
theorem d_Mod_countAll_39 : decode b_Mod_countAll 39 = .ok (.aload_n 0, 1) := by decide +kernel
theorem d_Mod_countAll_40 : decode b_Mod_countAll 40 = .ok (.getfield 7, 3) := by decide +kernel
theorem d_Mod_countAll_43 : decode b_Mod_countAll 43 = .ok (.iload_n 1, 1) := by decide +kernel
theorem d_Mod_countAll_44 : decode b_Mod_countAll 44 = .ok (.iaload, 1) := by decide +kernel
theorem d_Mod_countAll_45 : decode b_Mod_countAll 45 = .ok (.dup2, 1) := by decide +kernel
theorem d_Mod_countAll_46 : decode b_Mod_countAll 46 = .ok (.iaload, 1) := by decide +kernel
theorem d_Mod_countAll_47 : decode b_Mod_countAll 47 = .ok (.iconst 1, 1) := by decide +kernel
theorem d_Mod_countAll_48 : decode b_Mod_countAll 48 = .ok (.iadd, 1) := by decide +kernel
theorem d_Mod_countAll_49 : decode b_Mod_countAll 49 = .ok (.iastore, 1) := by decide +kernel
theorem d_Mod_countAll_50 : decode b_Mod_countAll 50 = .ok (.iinc 1 1, 3) := by decide +kernel
theorem d_Mod_countAll_53 : decode b_Mod_countAll 53 = .ok (.goto (-26), 3) := by decide +kernel
theorem d_Mod_countAll_56 : decode b_Mod_countAll 56 = .ok (.aload_n 0, 1) := by decide +kernel
theorem d_Mod_countAll_57 : decode b_Mod_countAll 57 = .ok (.getfield 35, 3) := by decide +kernel
theorem d_Mod_countAll_60 : decode b_Mod_countAll 60 = .ok (.aload_n 0, 1) := by decide +kernel
theorem d_Mod_countAll_61 : decode b_Mod_countAll 61 = .ok (.getfield 42, 3) := by decide +kernel
theorem d_Mod_countAll_64 : decode b_Mod_countAll 64 = .ok (.isub, 1) := by decide +kernel
theorem d_Mod_countAll_65 : decode b_Mod_countAll 65 = .ok (.ireturn, 1) := by decide +kernel
theorem d_Mod_drafted_0 : decode b_Mod_drafted 0 = .ok (.iconst 0, 1) := by decide +kernel
theorem d_Mod_drafted_1 : decode b_Mod_drafted 1 = .ok (.istore_n 1, 1) := by decide +kernel
theorem d_Mod_drafted_2 : decode b_Mod_drafted 2 = .ok (.iconst 0, 1) := by decide +kernel
theorem d_Mod_drafted_3 : decode b_Mod_drafted 3 = .ok (.istore_n 2, 1) := by decide +kernel
theorem d_Mod_drafted_4 : decode b_Mod_drafted 4 = .ok (.iload_n 2, 1) := by decide +kernel
theorem d_Mod_drafted_5 : decode b_Mod_drafted 5 = .ok (.sipush 256, 3) := by decide +kernel
theorem d_Mod_drafted_8 : decode b_Mod_drafted 8 = .ok (.if_icmp .ge 21, 3) := by decide +kernel
theorem d_Mod_drafted_11 : decode b_Mod_drafted 11 = .ok (.iload_n 1, 1) := by decide +kernel
theorem d_Mod_drafted_12 : decode b_Mod_drafted 12 = .ok (.aload_n 0, 1) := by decide +kernel
theorem d_Mod_drafted_13 : decode b_Mod_drafted 13 = .ok (.getfield 25, 3) := by decide +kernel
theorem d_Mod_drafted_16 : decode b_Mod_drafted 16 = .ok (.iload_n 2, 1) := by decide +kernel
theorem d_Mod_drafted_17 : decode b_Mod_drafted 17 = .ok (.iaload, 1) := by decide +kernel
theorem d_Mod_drafted_18 : decode b_Mod_drafted 18 = .ok (.invokestatic 46, 3) := by decide +kernel
theorem d_Mod_drafted_21 : decode b_Mod_drafted 21 = .ok (.iadd, 1) := by decide +kernel
theorem d_Mod_drafted_22 : decode b_Mod_drafted 22 = .ok (.istore_n 1, 1) := by decide +kernel
theorem d_Mod_drafted_23 : decode b_Mod_drafted 23 = .ok (.iinc 2 1, 3) := by decide +kernel
theorem d_Mod_drafted_26 : decode b_Mod_drafted 26 = .ok (.goto (-22), 3) := by decide +kernel
theorem d_Mod_drafted_29 : decode b_Mod_drafted 29 = .ok (.iload_n 1, 1) := by decide +kernel
theorem d_Mod_drafted_30 : decode b_Mod_drafted 30 = .ok (.ireturn, 1) := by decide +kernel
abbrev rm_M_write : Room := { frames := 0, cells := 0, slots := 0, locals := 0 }
set_option maxHeartbeats 4000000 in
set_option maxRecDepth 100000 in
theorem c_M_write (l : Launch) (D : va_G) (cI cB cZ : ClassId) (sz : Nat) (r : Nat) (ri : Nat) (ro : Nat) (rc : Nat) (rp : Nat) (rs : Nat) (rd : Nat) (rk : Nat) (rh : Nat) (iL : Int) (go : Int) (oL : Int) (o : Nat) (bP : Int) (bR : Int) (xi : Nat → Int) (x : Int64) (n : Int) (hiL : 0 ≤ iL ∧ iL ≤ 6000) (hn1 : -2147483648 ≤ n ∧ n < 2147483648) (hxi : ∀ k, k < 6000 → 0 ≤ xi k ∧ xi k < 256) : Met l y_Mod_write (.code y_Mod_write b_Mod_write 5 (some .boolean) :: zT) rm_M_write (zPc D classes (TY cI cB cZ) [(r, .inr (4, [.ref ri, .int (iZ iL), .int (iZ go), .ref ro, .int (iZ oL), .ref rc, .int (iZ (o : Int)), .ref rp, .ref rs, .ref rd, .ref rk, .ref rh, .int (iZ bP), .int (iZ bR)])), (ri, .inl (cI, 6000, .inl (zA xi)))] sz [.ref r, .long x, .int (iZ n)]) (zFi (S := Int × (Nat → Int)) D classes (fun z u => (z = 1 ∧ (1 ≤ n ∧ n ≤ 8 ∧ iL + n ≤ 6000) ∧ u.1 = iL + n ∧ (∀ k, k < 6000 → 0 ≤ u.2 k ∧ u.2 k < 256) ∧ (∀ k : Nat, (k : Int) < iL → u.2 k = xi k) ∧ ∀ j : Nat, (j : Int) < n → u.2 (iL.toNat + j) = wbyte x (n - 1 - j).toNat) ∨ (z = 0 ∧ ¬ (1 ≤ n ∧ n ≤ 8 ∧ iL + n ≤ 6000) ∧ u.1 = iL ∧ u.2 = xi)) (fun u => [(r, .inr (4, [.ref ri, .int (iZ u.1), .int (iZ go), .ref ro, .int (iZ oL), .ref rc, .int (iZ (o : Int)), .ref rp, .ref rs, .ref rd, .ref rk, .ref rh, .int (iZ bP), .int (iZ bR)])), (ri, .inl (cI, 6000, .inl (zA u.2)))]) (va_A [(r, .inr (4, [.ref ri, .int (iZ iL), .int (iZ go), .ref ro, .int (iZ oL), .ref rc, .int (iZ (o : Int)), .ref rp, .ref rs, .ref rd, .ref rk, .ref rh, .int (iZ bP), .int (iZ bR)])), (ri, .inl (cI, 6000, .inl (zA xi)))] sz)) 0 0 (va_A [(r, .inr (4, [.ref ri, .int (iZ iL), .int (iZ go), .ref ro, .int (iZ oL), .ref rc, .int (iZ (o : Int)), .ref rp, .ref rs, .ref rd, .ref rk, .ref rh, .int (iZ bP), .int (iZ bR)])), (ri, .inl (cI, 6000, .inl (zA xi)))] sz) := by
  refine z_ofi (by decide) (Nat.le_of_ble_eq_true rfl) (Or.inr rfl) ?_
  intro p e s m args below meth c A Q E jA jK jret H locs jP jD jS ls jl
  obtain ⟨jx, jb, jrt, jml, jown, jts, jlk⟩ := E
  have jown : s.vm.findClass R_Mod = some m.cls := jown
  have jl : lv_has ls 5 [(0, .ref r), (1, .long x), (3, .int (iZ n))] := jl
  refine lv_iload_n jx jb d_Mod_write_0 rfl (lv_at jl 2 rfl) ?_
  refine lv_iconst (v := iZ 1) jx jb d_Mod_write_1 rfl ?_
  refine z_icmp_lt (tgt := 23) jx jb d_Mod_write_2 (by decide) ⟨⟨by omega, by omega⟩, ⟨by decide, by decide⟩⟩ (fun hc2 => ?_) (fun hc2 => ?_)
  ·
    refine lv_iconst (v := iZ 0) jx jb d_Mod_write_23 rfl ?_
    exact jret _ _ _ (iL, xi) _ _ (Or.inr (Or.inl rfl)) (Or.inr ⟨rfl, by omega, rfl, rfl⟩) (jP.sub [0, 1] rfl) (jD.sub [0, 1] (by decide) rfl) jS d_Mod_write_24
  ·
    refine lv_iload_n jx jb d_Mod_write_5 rfl (lv_at jl 2 rfl) ?_
    refine lv_bipush (v := iZ 8) jx jb d_Mod_write_6 (by decide) ?_
    refine z_icmp_gt (tgt := 23) jx jb d_Mod_write_8 (by decide) ⟨⟨by omega, by omega⟩, ⟨by decide, by decide⟩⟩ (fun hc8 => ?_) (fun hc8 => ?_)
    ·
      refine lv_iconst (v := iZ 0) jx jb d_Mod_write_23 rfl ?_
      exact jret _ _ _ (iL, xi) _ _ (Or.inr (Or.inl rfl)) (Or.inr ⟨rfl, by omega, rfl, rfl⟩) (jP.sub [0, 1] rfl) (jD.sub [0, 1] (by decide) rfl) jS d_Mod_write_24
    ·
      refine lv_aload_n jx jb d_Mod_write_11 rfl (lv_at jl 0 rfl) ?_
      refine va_get (D := D) (ci := 4) (v := .int (iZ iL)) (C := R_Mod) (T := F_Mod) (N := 14) jx jb jts i_Mod jown jK.1 jP 0 rfl rfl 1 (by decide) (jts _ fl_Mod_35) (fun _ h9 => h9) rfl d_Mod_write_12 ?_
      refine lv_iload_n jx jb d_Mod_write_15 rfl (lv_at jl 2 rfl) ?_
      refine z_iadd jx jb d_Mod_write_16 ?_
      refine lv_sipush (v := iZ 6000) jx jb d_Mod_write_17 (by decide) ?_
      refine z_icmp_le (tgt := 25) jx jb d_Mod_write_20 (by decide) ⟨⟨by omega, by omega⟩, ⟨by decide, by decide⟩⟩ (fun hc20 => ?_) (fun hc20 => ?_)
      ·
        refine lv_iload_n jx jb d_Mod_write_25 rfl (lv_at jl 2 rfl) ?_
        refine lv_iconst (v := iZ 1) jx jb d_Mod_write_26 rfl ?_
        refine z_isub jx jb d_Mod_write_27 ?_
        refine z_top ((n.toNat : Int) - 1) (by omega) ?_
        refine lv_istore (lv' := [(4, .int (iZ ((n.toNat : Int) - 1))), (0, .ref r), (1, .long x), (3, .int (iZ n))]) jx jb d_Mod_write_28 jl (by decide) rfl (fun ls jl => ?_)
        have hloop30 : ∀ (nF : Nat) (d : Nat) (L2 : Int) (f2 : Nat → Int), d < nF → ((d : Int) ≤ n) → (wrM xi f2 iL L2 n d x) → ∀ (H : Heap) (locs : List Loc), va_P D classes [(r, .inr (4, [.ref ri, .int (iZ L2), .int (iZ go), .ref ro, .int (iZ oL), .ref rc, .int (iZ (o : Int)), .ref rp, .ref rs, .ref rd, .ref rk, .ref rh, .int (iZ bP), .int (iZ bR)])), (ri, .inl (cI, 6000, .inl (zA f2)))] H → va_D A [(r, .inr (4, [.ref ri, .int (iZ L2), .int (iZ go), .ref ro, .int (iZ oL), .ref rc, .int (iZ (o : Int)), .ref rp, .ref rs, .ref rd, .ref rk, .ref rh, .int (iZ bP), .int (iZ bR)])), (ri, .inl (cI, 6000, .inl (zA f2)))] → va_S A s.heap H locs → ∀ ls : Array Slot, lv_has ls 5 [(0, .ref r), (1, .long x), (3, .int (iZ n)), (4, .int (iZ ((d : Int) - 1)))] → W p l e rm_M_write s m args below meth c H locs 0 0 Q (F0 m 30 ls []) := by
          intro nF
          induction nF with
          | zero => intro d L2 f2 hm; exact absurd hm (Nat.not_lt_zero _)
          | succ nF ih30 =>
            intro d L2 f2 hm hd hW H locs jP jD jS ls jl
            refine lv_iload jx jb d_Mod_write_30 (lv_at jl 3 rfl) ?_
            have hd0 := hW.1
            refine z_if_lt (tgt := 72) jx jb d_Mod_write_32 (by decide) ⟨by omega, by omega⟩ (fun hc32 => ?_) (fun hc32 => ?_)
            ·
              refine lv_iconst (v := iZ 1) jx jb d_Mod_write_72 rfl ?_
              exact jret _ _ _ (L2, f2) _ _ (Or.inr (Or.inr rfl)) (Or.inl ⟨rfl, by omega, wrM_end hW (by omega)⟩) (jP.sub [0, 1] rfl) (jD.sub [0, 1] (by decide) rfl) jS d_Mod_write_73
            ·
              refine lv_aload_n jx jb d_Mod_write_35 rfl (lv_at jl 0 rfl) ?_
              refine va_get (D := D) (ci := 4) (v := .ref ri) (C := R_Mod) (T := F_Mod) (N := 14) jx jb jts i_Mod jown jK.1 jP 0 rfl rfl 0 (by decide) (jts _ fl_Mod_7) (fun _ h9 => h9) rfl d_Mod_write_36 ?_
              refine lv_aload_n jx jb d_Mod_write_39 rfl (lv_at jl 0 rfl) ?_
              refine va_get (D := D) (ci := 4) (v := .int (iZ L2)) (C := R_Mod) (T := F_Mod) (N := 14) jx jb jts i_Mod jown jK.1 jP 0 rfl rfl 1 (by decide) (jts _ fl_Mod_35) (fun _ h9 => h9) rfl d_Mod_write_40 ?_
              refine lv_lload_n jx jb d_Mod_write_43 rfl (lv_at jl 1 rfl) ?_
              refine lv_bipush (v := iZ 8) jx jb d_Mod_write_44 (by decide) ?_
              refine lv_iload jx jb d_Mod_write_46 (lv_at jl 3 rfl) ?_
              refine z_imul jx jb d_Mod_write_48 ?_
              refine z_lushr jx jb d_Mod_write_49 (8 * (d - 1)) (by omega) (fun v49 hv49 => ?_)
              refine z_l2i jx jb d_Mod_write_50 ?_
              refine lv_sipush (v := iZ 255) jx jb d_Mod_write_51 (by decide) ?_
              refine z_iand jx jb d_Mod_write_54 8 256 (rfl) (rfl) (by decide) ?_
              refine z_top (wbyte x (d - 1)) (hv49) ?_
              refine z_iast jx jb jK.1 jP jD jS 1 0 rfl rfl L2.toNat (by omega) d_Mod_write_55 (fun H locs jP jD jS => ?_)
              have jP : va_P D classes [(r, .inr (4, [.ref ri, .int (iZ L2), .int (iZ go), .ref ro, .int (iZ oL), .ref rc, .int (iZ (o : Int)), .ref rp, .ref rs, .ref rd, .ref rk, .ref rh, .int (iZ bP), .int (iZ bR)])), (ri, .inl (cI, 6000, .inl (zA (zu f2 L2.toNat (wbyte x (d - 1))))))] H := jP
              have jD : va_D A [(r, .inr (4, [.ref ri, .int (iZ L2), .int (iZ go), .ref ro, .int (iZ oL), .ref rc, .int (iZ (o : Int)), .ref rp, .ref rs, .ref rd, .ref rk, .ref rh, .int (iZ bP), .int (iZ bR)])), (ri, .inl (cI, 6000, .inl (zA (zu f2 L2.toNat (wbyte x (d - 1))))))] := jD
              refine lv_aload_n jx jb d_Mod_write_56 rfl (lv_at jl 0 rfl) ?_
              refine lv_dup jx jb d_Mod_write_57 rfl ?_
              refine va_get (D := D) (ci := 4) (v := .int (iZ L2)) (C := R_Mod) (T := F_Mod) (N := 14) jx jb jts i_Mod jown jK.1 jP 0 rfl rfl 1 (by decide) (jts _ fl_Mod_35) (fun _ h9 => h9) rfl d_Mod_write_58 ?_
              refine lv_iconst (v := iZ 1) jx jb d_Mod_write_61 rfl ?_
              refine z_iadd jx jb d_Mod_write_62 ?_
              refine va_put (D := D) (ci := 4) (v := .int (iZ (L2 + 1))) (ty := .int) (C := R_Mod) (T := F_Mod) (N := 14) jx jb jts i_Mod t_Mod t_Mod_ok n_Mod jown jK.1 jP jD jS 0 rfl rfl 1 (by decide) (jts _ fl_Mod_35) (fun _ h9 => h9) rfl (by decide +kernel) rfl rfl (Nat.le_of_ble_eq_true rfl) d_Mod_write_63 (fun H locs jP jD jS => ?_)
              have jP : va_P D classes [(r, .inr (4, [.ref ri, .int (iZ (L2 + 1)), .int (iZ go), .ref ro, .int (iZ oL), .ref rc, .int (iZ (o : Int)), .ref rp, .ref rs, .ref rd, .ref rk, .ref rh, .int (iZ bP), .int (iZ bR)])), (ri, .inl (cI, 6000, .inl (zA (zu f2 L2.toNat (wbyte x (d - 1))))))] H := jP
              have jD : va_D A [(r, .inr (4, [.ref ri, .int (iZ (L2 + 1)), .int (iZ go), .ref ro, .int (iZ oL), .ref rc, .int (iZ (o : Int)), .ref rp, .ref rs, .ref rd, .ref rk, .ref rh, .int (iZ bP), .int (iZ bR)])), (ri, .inl (cI, 6000, .inl (zA (zu f2 L2.toNat (wbyte x (d - 1))))))] := jD
              refine lv_iinc (v := iZ (((d - 1 : Nat) : Int) - 1)) (lv' := [(4, .int (iZ (((d - 1 : Nat) : Int) - 1))), (0, .ref r), (1, .long x), (3, .int (iZ n))]) jx jb d_Mod_write_66 jl (k := 3) rfl (by rw [show (((d - 1 : Nat) : Int) - 1) = ((d : Int) - 1) + (-1) from by omega]; exact iZ_add _ _) (by decide) rfl (fun ls jl => ?_)
              refine lv_goto (tgt := 30) jx jb d_Mod_write_69 (by decide) ?_
              exact ih30 (d - 1) (L2 + 1) (zu f2 L2.toNat (wbyte x (d - 1))) (by omega) (by first | assumption | omega) (wrM_s hW (by omega) (by omega)) _ _ (jP.sub [0, 1] rfl) (jD.sub [0, 1] (by decide) rfl) jS _ (lv_sub jl [1, 2, 3, 0] rfl)
        exact hloop30 (n.toNat + 1) n.toNat iL xi (Nat.lt_succ_self _) (by first | assumption | omega) (wrM_0 (by omega) (by omega) (by omega) hxi) _ _ (jP.sub [0, 1] rfl) (jD.sub [0, 1] (by decide) rfl) jS _ (lv_sub jl [1, 2, 3, 0] rfl)
      ·
        refine lv_iconst (v := iZ 0) jx jb d_Mod_write_23 rfl ?_
        exact jret _ _ _ (iL, xi) _ _ (Or.inr (Or.inl rfl)) (Or.inr ⟨rfl, by omega, rfl, rfl⟩) (jP.sub [0, 1] rfl) (jD.sub [0, 1] (by decide) rfl) jS d_Mod_write_24
abbrev rm_M_turn : Room := { frames := 0, cells := 0, slots := 0, locals := 0 }
set_option maxHeartbeats 4000000 in
set_option maxRecDepth 100000 in
theorem c_M_turn (l : Launch) (D : va_G) (cI cB cZ : ClassId) (sz : Nat) (r : Nat) (ri : Nat) (ro : Nat) (rc : Nat) (rp : Nat) (rs : Nat) (rd : Nat) (rk : Nat) (rh : Nat) (iL : Int) (go : Int) (oL : Int) (o : Nat) (bP : Int) (bR : Int) (xi : Nat → Int) (xo : Nat → Int) (hoL : 0 ≤ oL ∧ oL ≤ 6000) : Met l y_Mod_turn (.code y_Mod_turn b_Mod_turn 2 none :: zT) rm_M_turn (zPc D classes (TY cI cB cZ) [(r, .inr (4, [.ref ri, .int (iZ iL), .int (iZ go), .ref ro, .int (iZ oL), .ref rc, .int (iZ (o : Int)), .ref rp, .ref rs, .ref rd, .ref rk, .ref rh, .int (iZ bP), .int (iZ bR)])), (ri, .inl (cI, 6000, .inl (zA xi))), (ro, .inl (cI, 6000, .inl (zA xo)))] sz [.ref r]) (zFv (S := Nat → Int) D classes (fun u => (∀ k : Nat, (k : Int) < oL → u k = xo k) ∧ ∀ k : Nat, oL ≤ (k : Int) → u k = xi k) (fun u => [(r, .inr (4, [.ref ri, .int (iZ oL), .int (iZ 0), .ref ro, .int (iZ oL), .ref rc, .int (iZ (o : Int)), .ref rp, .ref rs, .ref rd, .ref rk, .ref rh, .int (iZ bP), .int (iZ bR)])), (ri, .inl (cI, 6000, .inl (zA u))), (ro, .inl (cI, 6000, .inl (zA xo)))]) (va_A [(r, .inr (4, [.ref ri, .int (iZ iL), .int (iZ go), .ref ro, .int (iZ oL), .ref rc, .int (iZ (o : Int)), .ref rp, .ref rs, .ref rd, .ref rk, .ref rh, .int (iZ bP), .int (iZ bR)])), (ri, .inl (cI, 6000, .inl (zA xi))), (ro, .inl (cI, 6000, .inl (zA xo)))] sz)) 0 0 (va_A [(r, .inr (4, [.ref ri, .int (iZ iL), .int (iZ go), .ref ro, .int (iZ oL), .ref rc, .int (iZ (o : Int)), .ref rp, .ref rs, .ref rd, .ref rk, .ref rh, .int (iZ bP), .int (iZ bR)])), (ri, .inl (cI, 6000, .inl (zA xi))), (ro, .inl (cI, 6000, .inl (zA xo)))] sz) := by
  refine z_ofv (by decide) (Nat.le_of_ble_eq_true rfl) rfl ?_
  intro p e s m args below meth c A Q E jmn jA jK jret H locs jP jD jS ls jl
  obtain ⟨jx, jb, jrt, jml, jown, jts, jlk⟩ := E
  have jown : s.vm.findClass R_Mod = some m.cls := jown
  have jl : lv_has ls 2 [(0, .ref r)] := jl
  refine lv_iconst (v := iZ 0) jx jb d_Mod_turn_0 rfl ?_
  refine lv_istore_n (lv' := [(1, .int (iZ 0)), (0, .ref r)]) jx jb d_Mod_turn_1 rfl jl (by decide) rfl (fun ls jl => ?_)
  have hloop2 : ∀ (nF : Nat) (i : Nat) (x2 : Nat → Int), oL.toNat - i < nF → ((i : Int) ≤ oL) → (∀ k, k < i → x2 k = xo k) → (∀ k, i ≤ k → x2 k = xi k) → ∀ (H : Heap) (locs : List Loc), va_P D classes [(r, .inr (4, [.ref ri, .int (iZ iL), .int (iZ go), .ref ro, .int (iZ oL), .ref rc, .int (iZ (o : Int)), .ref rp, .ref rs, .ref rd, .ref rk, .ref rh, .int (iZ bP), .int (iZ bR)])), (ri, .inl (cI, 6000, .inl (zA x2))), (ro, .inl (cI, 6000, .inl (zA xo)))] H → va_D A [(r, .inr (4, [.ref ri, .int (iZ iL), .int (iZ go), .ref ro, .int (iZ oL), .ref rc, .int (iZ (o : Int)), .ref rp, .ref rs, .ref rd, .ref rk, .ref rh, .int (iZ bP), .int (iZ bR)])), (ri, .inl (cI, 6000, .inl (zA x2))), (ro, .inl (cI, 6000, .inl (zA xo)))] → va_S A s.heap H locs → ∀ ls : Array Slot, lv_has ls 2 [(0, .ref r), (1, .int (iZ (i : Int)))] → W p l e rm_M_turn s m args below meth c H locs 0 0 Q (F0 m 2 ls []) := by
    intro nF
    induction nF with
    | zero => intro i x2 hm; exact absurd hm (Nat.not_lt_zero _)
    | succ nF ih2 =>
      intro i x2 hm hi h1 h2 H locs jP jD jS ls jl
      refine lv_iload_n jx jb d_Mod_turn_2 rfl (lv_at jl 1 rfl) ?_
      refine lv_aload_n jx jb d_Mod_turn_3 rfl (lv_at jl 0 rfl) ?_
      refine va_get (D := D) (ci := 4) (v := .int (iZ oL)) (C := R_Mod) (T := F_Mod) (N := 14) jx jb jts i_Mod jown jK.1 jP 0 rfl rfl 4 (by decide) (jts _ fl_Mod_39) (fun _ h9 => h9) rfl d_Mod_turn_4 ?_
      refine z_icmp_ge (tgt := 28) jx jb d_Mod_turn_7 (by decide) ⟨⟨by omega, by omega⟩, ⟨by omega, by omega⟩⟩ (fun hc7 => ?_) (fun hc7 => ?_)
      ·
        refine lv_aload_n jx jb d_Mod_turn_28 rfl (lv_at jl 0 rfl) ?_
        refine lv_aload_n jx jb d_Mod_turn_29 rfl (lv_at jl 0 rfl) ?_
        refine va_get (D := D) (ci := 4) (v := .int (iZ oL)) (C := R_Mod) (T := F_Mod) (N := 14) jx jb jts i_Mod jown jK.1 jP 0 rfl rfl 4 (by decide) (jts _ fl_Mod_39) (fun _ h9 => h9) rfl d_Mod_turn_30 ?_
        refine va_put (D := D) (ci := 4) (v := .int (iZ oL)) (ty := .int) (C := R_Mod) (T := F_Mod) (N := 14) jx jb jts i_Mod t_Mod t_Mod_ok n_Mod jown jK.1 jP jD jS 0 rfl rfl 1 (by decide) (jts _ fl_Mod_35) (fun _ h9 => h9) rfl (by decide +kernel) rfl rfl (Nat.le_of_ble_eq_true rfl) d_Mod_turn_33 (fun H locs jP jD jS => ?_)
        have jP : va_P D classes [(r, .inr (4, [.ref ri, .int (iZ oL), .int (iZ go), .ref ro, .int (iZ oL), .ref rc, .int (iZ (o : Int)), .ref rp, .ref rs, .ref rd, .ref rk, .ref rh, .int (iZ bP), .int (iZ bR)])), (ri, .inl (cI, 6000, .inl (zA x2))), (ro, .inl (cI, 6000, .inl (zA xo)))] H := jP
        have jD : va_D A [(r, .inr (4, [.ref ri, .int (iZ oL), .int (iZ go), .ref ro, .int (iZ oL), .ref rc, .int (iZ (o : Int)), .ref rp, .ref rs, .ref rd, .ref rk, .ref rh, .int (iZ bP), .int (iZ bR)])), (ri, .inl (cI, 6000, .inl (zA x2))), (ro, .inl (cI, 6000, .inl (zA xo)))] := jD
        refine lv_aload_n jx jb d_Mod_turn_36 rfl (lv_at jl 0 rfl) ?_
        refine lv_iconst (v := iZ 0) jx jb d_Mod_turn_37 rfl ?_
        refine va_put (D := D) (ci := 4) (v := .int (iZ 0)) (ty := .int) (C := R_Mod) (T := F_Mod) (N := 14) jx jb jts i_Mod t_Mod t_Mod_ok n_Mod jown jK.1 jP jD jS 0 rfl rfl 2 (by decide) (jts _ fl_Mod_42) (fun _ h9 => h9) rfl (by decide +kernel) rfl rfl (Nat.le_of_ble_eq_true rfl) d_Mod_turn_38 (fun H locs jP jD jS => ?_)
        have jP : va_P D classes [(r, .inr (4, [.ref ri, .int (iZ oL), .int (iZ 0), .ref ro, .int (iZ oL), .ref rc, .int (iZ (o : Int)), .ref rp, .ref rs, .ref rd, .ref rk, .ref rh, .int (iZ bP), .int (iZ bR)])), (ri, .inl (cI, 6000, .inl (zA x2))), (ro, .inl (cI, 6000, .inl (zA xo)))] H := jP
        have jD : va_D A [(r, .inr (4, [.ref ri, .int (iZ oL), .int (iZ 0), .ref ro, .int (iZ oL), .ref rc, .int (iZ (o : Int)), .ref rp, .ref rs, .ref rd, .ref rk, .ref rh, .int (iZ bP), .int (iZ bR)])), (ri, .inl (cI, 6000, .inl (zA x2))), (ro, .inl (cI, 6000, .inl (zA xo)))] := jD
        exact jret _ _ (x2) _ _ (⟨fun k h => h1 k (by omega), fun k h => h2 k (by omega)⟩) (jP.sub [0, 1, 2] rfl) (jD.sub [0, 1, 2] (by decide) rfl) jS d_Mod_turn_41
      ·
        refine lv_aload_n jx jb d_Mod_turn_10 rfl (lv_at jl 0 rfl) ?_
        refine va_get (D := D) (ci := 4) (v := .ref ri) (C := R_Mod) (T := F_Mod) (N := 14) jx jb jts i_Mod jown jK.1 jP 0 rfl rfl 0 (by decide) (jts _ fl_Mod_7) (fun _ h9 => h9) rfl d_Mod_turn_11 ?_
        refine lv_iload_n jx jb d_Mod_turn_14 rfl (lv_at jl 1 rfl) ?_
        refine lv_aload_n jx jb d_Mod_turn_15 rfl (lv_at jl 0 rfl) ?_
        refine va_get (D := D) (ci := 4) (v := .ref ro) (C := R_Mod) (T := F_Mod) (N := 14) jx jb jts i_Mod jown jK.1 jP 0 rfl rfl 3 (by decide) (jts _ fl_Mod_13) (fun _ h9 => h9) rfl d_Mod_turn_16 ?_
        refine lv_iload_n jx jb d_Mod_turn_19 rfl (lv_at jl 1 rfl) ?_
        refine z_iald jx jb jK.1 jP 2 0 rfl rfl i (by omega) d_Mod_turn_20 ?_
        refine z_iast jx jb jK.1 jP jD jS 1 0 rfl rfl i (by omega) d_Mod_turn_21 (fun H locs jP jD jS => ?_)
        have jP : va_P D classes [(r, .inr (4, [.ref ri, .int (iZ iL), .int (iZ go), .ref ro, .int (iZ oL), .ref rc, .int (iZ (o : Int)), .ref rp, .ref rs, .ref rd, .ref rk, .ref rh, .int (iZ bP), .int (iZ bR)])), (ri, .inl (cI, 6000, .inl (zA (zu x2 i (xo i))))), (ro, .inl (cI, 6000, .inl (zA xo)))] H := jP
        have jD : va_D A [(r, .inr (4, [.ref ri, .int (iZ iL), .int (iZ go), .ref ro, .int (iZ oL), .ref rc, .int (iZ (o : Int)), .ref rp, .ref rs, .ref rd, .ref rk, .ref rh, .int (iZ bP), .int (iZ bR)])), (ri, .inl (cI, 6000, .inl (zA (zu x2 i (xo i))))), (ro, .inl (cI, 6000, .inl (zA xo)))] := jD
        refine lv_iinc (v := iZ ((i : Int) + 1)) (lv' := [(1, .int (iZ ((i : Int) + 1))), (0, .ref r)]) jx jb d_Mod_turn_22 jl (k := 1) rfl (iZ_add _ _) (by decide) rfl (fun ls jl => ?_)
        refine lv_goto (tgt := 2) jx jb d_Mod_turn_25 (by decide) ?_
        exact ih2 (i + 1) (zu x2 i (xo i)) (by omega) (by first | assumption | omega) (zu_all h1 rfl) (fun k h => by rw [zu_n (by omega)]; exact h2 k (by omega)) _ _ (jP.sub [0, 1, 2] rfl) (jD.sub [0, 1, 2] (by decide) rfl) jS _ (lv_sub jl [1, 0] rfl)
  exact hloop2 ((oL.toNat - 0) + 1) 0 xi (Nat.lt_succ_self _) (by first | assumption | omega) (fun k h => absurd h (by omega)) (fun k _ => rfl) _ _ (jP.sub [0, 1, 2] rfl) (jD.sub [0, 1, 2] (by decide) rfl) jS _ (lv_sub jl [1, 0] rfl)
abbrev rm_M_clear : Room := { frames := 0, cells := 0, slots := 0, locals := 0 }
set_option maxHeartbeats 4000000 in
set_option maxRecDepth 100000 in
theorem c_M_clear (l : Launch) (D : va_G) (cI cB cZ : ClassId) (sz : Nat) (r : Nat) (ri : Nat) (ro : Nat) (rc : Nat) (rp : Nat) (rs : Nat) (rd : Nat) (rk : Nat) (rh : Nat) (iL : Int) (go : Int) (oL : Int) (o : Nat) (bP : Int) (bR : Int) (xc : Nat → Int) : Met l y_Mod_clear (.code y_Mod_clear b_Mod_clear 2 none :: zT) rm_M_clear (zPc D classes (TY cI cB cZ) [(r, .inr (4, [.ref ri, .int (iZ iL), .int (iZ go), .ref ro, .int (iZ oL), .ref rc, .int (iZ (o : Int)), .ref rp, .ref rs, .ref rd, .ref rk, .ref rh, .int (iZ bP), .int (iZ bR)])), (rc, .inl (cI, 256, .inl (zA xc)))] sz [.ref r]) (zFv (S := Nat → Int) D classes (fun u => ∀ k, k < 256 → u k = 0) (fun u => [(r, .inr (4, [.ref ri, .int (iZ 0), .int (iZ 0), .ref ro, .int (iZ oL), .ref rc, .int (iZ (o : Int)), .ref rp, .ref rs, .ref rd, .ref rk, .ref rh, .int (iZ bP), .int (iZ bR)])), (rc, .inl (cI, 256, .inl (zA u)))]) (va_A [(r, .inr (4, [.ref ri, .int (iZ iL), .int (iZ go), .ref ro, .int (iZ oL), .ref rc, .int (iZ (o : Int)), .ref rp, .ref rs, .ref rd, .ref rk, .ref rh, .int (iZ bP), .int (iZ bR)])), (rc, .inl (cI, 256, .inl (zA xc)))] sz)) 0 0 (va_A [(r, .inr (4, [.ref ri, .int (iZ iL), .int (iZ go), .ref ro, .int (iZ oL), .ref rc, .int (iZ (o : Int)), .ref rp, .ref rs, .ref rd, .ref rk, .ref rh, .int (iZ bP), .int (iZ bR)])), (rc, .inl (cI, 256, .inl (zA xc)))] sz) := by
  refine z_ofv (by decide) (Nat.le_of_ble_eq_true rfl) rfl ?_
  intro p e s m args below meth c A Q E jmn jA jK jret H locs jP jD jS ls jl
  obtain ⟨jx, jb, jrt, jml, jown, jts, jlk⟩ := E
  have jown : s.vm.findClass R_Mod = some m.cls := jown
  have jl : lv_has ls 2 [(0, .ref r)] := jl
  refine lv_aload_n jx jb d_Mod_clear_0 rfl (lv_at jl 0 rfl) ?_
  refine lv_iconst (v := iZ 0) jx jb d_Mod_clear_1 rfl ?_
  refine va_put (D := D) (ci := 4) (v := .int (iZ 0)) (ty := .int) (C := R_Mod) (T := F_Mod) (N := 14) jx jb jts i_Mod t_Mod t_Mod_ok n_Mod jown jK.1 jP jD jS 0 rfl rfl 1 (by decide) (jts _ fl_Mod_35) (fun _ h9 => h9) rfl (by decide +kernel) rfl rfl (Nat.le_of_ble_eq_true rfl) d_Mod_clear_2 (fun H locs jP jD jS => ?_)
  have jP : va_P D classes [(r, .inr (4, [.ref ri, .int (iZ 0), .int (iZ go), .ref ro, .int (iZ oL), .ref rc, .int (iZ (o : Int)), .ref rp, .ref rs, .ref rd, .ref rk, .ref rh, .int (iZ bP), .int (iZ bR)])), (rc, .inl (cI, 256, .inl (zA xc)))] H := jP
  have jD : va_D A [(r, .inr (4, [.ref ri, .int (iZ 0), .int (iZ go), .ref ro, .int (iZ oL), .ref rc, .int (iZ (o : Int)), .ref rp, .ref rs, .ref rd, .ref rk, .ref rh, .int (iZ bP), .int (iZ bR)])), (rc, .inl (cI, 256, .inl (zA xc)))] := jD
  refine lv_aload_n jx jb d_Mod_clear_5 rfl (lv_at jl 0 rfl) ?_
  refine lv_iconst (v := iZ 0) jx jb d_Mod_clear_6 rfl ?_
  refine va_put (D := D) (ci := 4) (v := .int (iZ 0)) (ty := .int) (C := R_Mod) (T := F_Mod) (N := 14) jx jb jts i_Mod t_Mod t_Mod_ok n_Mod jown jK.1 jP jD jS 0 rfl rfl 2 (by decide) (jts _ fl_Mod_42) (fun _ h9 => h9) rfl (by decide +kernel) rfl rfl (Nat.le_of_ble_eq_true rfl) d_Mod_clear_7 (fun H locs jP jD jS => ?_)
  have jP : va_P D classes [(r, .inr (4, [.ref ri, .int (iZ 0), .int (iZ 0), .ref ro, .int (iZ oL), .ref rc, .int (iZ (o : Int)), .ref rp, .ref rs, .ref rd, .ref rk, .ref rh, .int (iZ bP), .int (iZ bR)])), (rc, .inl (cI, 256, .inl (zA xc)))] H := jP
  have jD : va_D A [(r, .inr (4, [.ref ri, .int (iZ 0), .int (iZ 0), .ref ro, .int (iZ oL), .ref rc, .int (iZ (o : Int)), .ref rp, .ref rs, .ref rd, .ref rk, .ref rh, .int (iZ bP), .int (iZ bR)])), (rc, .inl (cI, 256, .inl (zA xc)))] := jD
  refine lv_iconst (v := iZ 0) jx jb d_Mod_clear_10 rfl ?_
  refine lv_istore_n (lv' := [(1, .int (iZ 0)), (0, .ref r)]) jx jb d_Mod_clear_11 rfl jl (by decide) rfl (fun ls jl => ?_)
  have hloop12 : ∀ (nF : Nat) (i : Nat) (x2 : Nat → Int), 256 - i < nF → (i ≤ 256) → (∀ k, k < i → x2 k = 0) → ∀ (H : Heap) (locs : List Loc), va_P D classes [(r, .inr (4, [.ref ri, .int (iZ 0), .int (iZ 0), .ref ro, .int (iZ oL), .ref rc, .int (iZ (o : Int)), .ref rp, .ref rs, .ref rd, .ref rk, .ref rh, .int (iZ bP), .int (iZ bR)])), (rc, .inl (cI, 256, .inl (zA x2)))] H → va_D A [(r, .inr (4, [.ref ri, .int (iZ 0), .int (iZ 0), .ref ro, .int (iZ oL), .ref rc, .int (iZ (o : Int)), .ref rp, .ref rs, .ref rd, .ref rk, .ref rh, .int (iZ bP), .int (iZ bR)])), (rc, .inl (cI, 256, .inl (zA x2)))] → va_S A s.heap H locs → ∀ ls : Array Slot, lv_has ls 2 [(0, .ref r), (1, .int (iZ (i : Int)))] → W p l e rm_M_clear s m args below meth c H locs 0 0 Q (F0 m 12 ls []) := by
    intro nF
    induction nF with
    | zero => intro i x2 hm; exact absurd hm (Nat.not_lt_zero _)
    | succ nF ih12 =>
      intro i x2 hm hi h1 H locs jP jD jS ls jl
      refine lv_iload_n jx jb d_Mod_clear_12 rfl (lv_at jl 1 rfl) ?_
      refine lv_sipush (v := iZ 256) jx jb d_Mod_clear_13 (by decide) ?_
      refine z_icmp_ge (tgt := 32) jx jb d_Mod_clear_16 (by decide) ⟨⟨by omega, by omega⟩, ⟨by decide, by decide⟩⟩ (fun hc16 => ?_) (fun hc16 => ?_)
      ·
        exact jret _ _ (x2) _ _ (fun k h => h1 k (by omega)) (jP.sub [0, 1] rfl) (jD.sub [0, 1] (by decide) rfl) jS d_Mod_clear_32
      ·
        refine lv_aload_n jx jb d_Mod_clear_19 rfl (lv_at jl 0 rfl) ?_
        refine va_get (D := D) (ci := 4) (v := .ref rc) (C := R_Mod) (T := F_Mod) (N := 14) jx jb jts i_Mod jown jK.1 jP 0 rfl rfl 5 (by decide) (jts _ fl_Mod_16) (fun _ h9 => h9) rfl d_Mod_clear_20 ?_
        refine lv_iload_n jx jb d_Mod_clear_23 rfl (lv_at jl 1 rfl) ?_
        refine lv_iconst (v := iZ 0) jx jb d_Mod_clear_24 rfl ?_
        refine z_iast jx jb jK.1 jP jD jS 1 0 rfl rfl i (by omega) d_Mod_clear_25 (fun H locs jP jD jS => ?_)
        have jP : va_P D classes [(r, .inr (4, [.ref ri, .int (iZ 0), .int (iZ 0), .ref ro, .int (iZ oL), .ref rc, .int (iZ (o : Int)), .ref rp, .ref rs, .ref rd, .ref rk, .ref rh, .int (iZ bP), .int (iZ bR)])), (rc, .inl (cI, 256, .inl (zA (zu x2 i 0))))] H := jP
        have jD : va_D A [(r, .inr (4, [.ref ri, .int (iZ 0), .int (iZ 0), .ref ro, .int (iZ oL), .ref rc, .int (iZ (o : Int)), .ref rp, .ref rs, .ref rd, .ref rk, .ref rh, .int (iZ bP), .int (iZ bR)])), (rc, .inl (cI, 256, .inl (zA (zu x2 i 0))))] := jD
        refine lv_iinc (v := iZ ((i : Int) + 1)) (lv' := [(1, .int (iZ ((i : Int) + 1))), (0, .ref r)]) jx jb d_Mod_clear_26 jl (k := 1) rfl (iZ_add _ _) (by decide) rfl (fun ls jl => ?_)
        refine lv_goto (tgt := 12) jx jb d_Mod_clear_29 (by decide) ?_
        exact ih12 (i + 1) (zu x2 i 0) (by omega) (by first | assumption | omega) (zu_all (v := fun _ => 0) h1 rfl) _ _ (jP.sub [0, 1] rfl) (jD.sub [0, 1] (by decide) rfl) jS _ (lv_sub jl [1, 0] rfl)
  exact hloop12 ((256 - 0) + 1) 0 xc (Nat.lt_succ_self _) (by first | assumption | omega) (fun k h => absurd h (by omega)) _ _ (jP.sub [0, 1] rfl) (jD.sub [0, 1] (by decide) rfl) jS _ (lv_sub jl [1, 0] rfl)
abbrev rm_M_countAll : Room := { frames := 0, cells := 0, slots := 0, locals := 0 }
set_option maxHeartbeats 4000000 in
set_option maxRecDepth 100000 in
theorem c_M_countAll (l : Launch) (D : va_G) (cI cB cZ : ClassId) (sz : Nat) (r : Nat) (ri : Nat) (ro : Nat) (rc : Nat) (rp : Nat) (rs : Nat) (rd : Nat) (rk : Nat) (rh : Nat) (iL : Int) (go : Int) (oL : Int) (o : Nat) (bP : Int) (bR : Int) (xi : Nat → Int) (xc : Nat → Int) (hiL : 0 ≤ iL ∧ iL ≤ 6000) (hgo : 0 ≤ go ∧ go ≤ iL) (hxi : ∀ k, k < 6000 → 0 ≤ xi k ∧ xi k < 256) : Met l y_Mod_countAll (.code y_Mod_countAll b_Mod_countAll 2 (some .int) :: zT) rm_M_countAll (zPc D classes (TY cI cB cZ) [(r, .inr (4, [.ref ri, .int (iZ iL), .int (iZ go), .ref ro, .int (iZ oL), .ref rc, .int (iZ (o : Int)), .ref rp, .ref rs, .ref rd, .ref rk, .ref rh, .int (iZ bP), .int (iZ bR)])), (ri, .inl (cI, 6000, .inl (zA xi))), (rc, .inl (cI, 256, .inl (zA xc)))] sz [.ref r]) (zFi (S := Nat → Int) D classes (fun z u => z = iL - go ∧ ∀ k, k < 256 → u k = cnB xi go.toNat (iL - go).toNat k) (fun u => [(r, .inr (4, [.ref ri, .int (iZ iL), .int (iZ go), .ref ro, .int (iZ oL), .ref rc, .int (iZ (o : Int)), .ref rp, .ref rs, .ref rd, .ref rk, .ref rh, .int (iZ bP), .int (iZ bR)])), (ri, .inl (cI, 6000, .inl (zA xi))), (rc, .inl (cI, 256, .inl (zA u)))]) (va_A [(r, .inr (4, [.ref ri, .int (iZ iL), .int (iZ go), .ref ro, .int (iZ oL), .ref rc, .int (iZ (o : Int)), .ref rp, .ref rs, .ref rd, .ref rk, .ref rh, .int (iZ bP), .int (iZ bR)])), (ri, .inl (cI, 6000, .inl (zA xi))), (rc, .inl (cI, 256, .inl (zA xc)))] sz)) 0 0 (va_A [(r, .inr (4, [.ref ri, .int (iZ iL), .int (iZ go), .ref ro, .int (iZ oL), .ref rc, .int (iZ (o : Int)), .ref rp, .ref rs, .ref rd, .ref rk, .ref rh, .int (iZ bP), .int (iZ bR)])), (ri, .inl (cI, 6000, .inl (zA xi))), (rc, .inl (cI, 256, .inl (zA xc)))] sz) := by
  refine z_ofi (by decide) (Nat.le_of_ble_eq_true rfl) (Or.inl rfl) ?_
  intro p e s m args below meth c A Q E jA jK jret H locs jP jD jS ls jl
  obtain ⟨jx, jb, jrt, jml, jown, jts, jlk⟩ := E
  have jown : s.vm.findClass R_Mod = some m.cls := jown
  have jl : lv_has ls 2 [(0, .ref r)] := jl
  refine lv_iconst (v := iZ 0) jx jb d_Mod_countAll_0 rfl ?_
  refine lv_istore_n (lv' := [(1, .int (iZ 0)), (0, .ref r)]) jx jb d_Mod_countAll_1 rfl jl (by decide) rfl (fun ls jl => ?_)
  have hloop2 : ∀ (nF : Nat) (i : Nat) (x2 : Nat → Int), 256 - i < nF → (i ≤ 256) → (∀ k, k < i → x2 k = 0) → ∀ (H : Heap) (locs : List Loc), va_P D classes [(r, .inr (4, [.ref ri, .int (iZ iL), .int (iZ go), .ref ro, .int (iZ oL), .ref rc, .int (iZ (o : Int)), .ref rp, .ref rs, .ref rd, .ref rk, .ref rh, .int (iZ bP), .int (iZ bR)])), (ri, .inl (cI, 6000, .inl (zA xi))), (rc, .inl (cI, 256, .inl (zA x2)))] H → va_D A [(r, .inr (4, [.ref ri, .int (iZ iL), .int (iZ go), .ref ro, .int (iZ oL), .ref rc, .int (iZ (o : Int)), .ref rp, .ref rs, .ref rd, .ref rk, .ref rh, .int (iZ bP), .int (iZ bR)])), (ri, .inl (cI, 6000, .inl (zA xi))), (rc, .inl (cI, 256, .inl (zA x2)))] → va_S A s.heap H locs → ∀ ls : Array Slot, lv_has ls 2 [(0, .ref r), (1, .int (iZ (i : Int)))] → W p l e rm_M_countAll s m args below meth c H locs 0 0 Q (F0 m 2 ls []) := by
    intro nF
    induction nF with
    | zero => intro i x2 hm; exact absurd hm (Nat.not_lt_zero _)
    | succ nF ih2 =>
      intro i x2 hm hi h1 H locs jP jD jS ls jl
      refine lv_iload_n jx jb d_Mod_countAll_2 rfl (lv_at jl 1 rfl) ?_
      refine lv_sipush (v := iZ 256) jx jb d_Mod_countAll_3 (by decide) ?_
      refine z_icmp_ge (tgt := 22) jx jb d_Mod_countAll_6 (by decide) ⟨⟨by omega, by omega⟩, ⟨by decide, by decide⟩⟩ (fun hc6 => ?_) (fun hc6 => ?_)
      ·
        refine lv_aload_n jx jb d_Mod_countAll_22 rfl (lv_at jl 0 rfl) ?_
        refine va_get (D := D) (ci := 4) (v := .int (iZ go)) (C := R_Mod) (T := F_Mod) (N := 14) jx jb jts i_Mod jown jK.1 jP 0 rfl rfl 2 (by decide) (jts _ fl_Mod_42) (fun _ h9 => h9) rfl d_Mod_countAll_23 ?_
        refine z_top (go + ((0 : Nat) : Int)) (by omega) ?_
        refine lv_istore_n (lv' := [(1, .int (iZ (go + ((0 : Nat) : Int)))), (0, .ref r)]) jx jb d_Mod_countAll_26 rfl jl (by decide) rfl (fun ls jl => ?_)
        have hloop27 : ∀ (nF : Nat) (n : Nat) (x3 : Nat → Int), (iL - go).toNat - n < nF → ((n : Int) ≤ iL - go) → (∀ s, s < 256 → x3 s = cnB xi go.toNat n s) → ∀ (H : Heap) (locs : List Loc), va_P D classes [(r, .inr (4, [.ref ri, .int (iZ iL), .int (iZ go), .ref ro, .int (iZ oL), .ref rc, .int (iZ (o : Int)), .ref rp, .ref rs, .ref rd, .ref rk, .ref rh, .int (iZ bP), .int (iZ bR)])), (ri, .inl (cI, 6000, .inl (zA xi))), (rc, .inl (cI, 256, .inl (zA x3)))] H → va_D A [(r, .inr (4, [.ref ri, .int (iZ iL), .int (iZ go), .ref ro, .int (iZ oL), .ref rc, .int (iZ (o : Int)), .ref rp, .ref rs, .ref rd, .ref rk, .ref rh, .int (iZ bP), .int (iZ bR)])), (ri, .inl (cI, 6000, .inl (zA xi))), (rc, .inl (cI, 256, .inl (zA x3)))] → va_S A s.heap H locs → ∀ ls : Array Slot, lv_has ls 2 [(0, .ref r), (1, .int (iZ (go + (n : Int))))] → W p l e rm_M_countAll s m args below meth c H locs 0 0 Q (F0 m 27 ls []) := by
          intro nF
          induction nF with
          | zero => intro n x3 hm; exact absurd hm (Nat.not_lt_zero _)
          | succ nF ih27 =>
            intro n x3 hm hn h3 H locs jP jD jS ls jl
            refine lv_iload_n jx jb d_Mod_countAll_27 rfl (lv_at jl 1 rfl) ?_
            refine lv_aload_n jx jb d_Mod_countAll_28 rfl (lv_at jl 0 rfl) ?_
            refine va_get (D := D) (ci := 4) (v := .int (iZ iL)) (C := R_Mod) (T := F_Mod) (N := 14) jx jb jts i_Mod jown jK.1 jP 0 rfl rfl 1 (by decide) (jts _ fl_Mod_35) (fun _ h9 => h9) rfl d_Mod_countAll_29 ?_
            refine z_icmp_ge (tgt := 56) jx jb d_Mod_countAll_32 (by decide) ⟨⟨by omega, by omega⟩, ⟨by omega, by omega⟩⟩ (fun hc32 => ?_) (fun hc32 => ?_)
            ·
              refine lv_aload_n jx jb d_Mod_countAll_56 rfl (lv_at jl 0 rfl) ?_
              refine va_get (D := D) (ci := 4) (v := .int (iZ iL)) (C := R_Mod) (T := F_Mod) (N := 14) jx jb jts i_Mod jown jK.1 jP 0 rfl rfl 1 (by decide) (jts _ fl_Mod_35) (fun _ h9 => h9) rfl d_Mod_countAll_57 ?_
              refine lv_aload_n jx jb d_Mod_countAll_60 rfl (lv_at jl 0 rfl) ?_
              refine va_get (D := D) (ci := 4) (v := .int (iZ go)) (C := R_Mod) (T := F_Mod) (N := 14) jx jb jts i_Mod jown jK.1 jP 0 rfl rfl 2 (by decide) (jts _ fl_Mod_42) (fun _ h9 => h9) rfl d_Mod_countAll_61 ?_
              refine z_isub jx jb d_Mod_countAll_64 ?_
              exact jret _ _ _ (x3) _ _ (Or.inl rfl) (⟨rfl, fun k h => by rw [show (iL - go).toNat = n by omega]; exact h3 k h⟩) (jP.sub [0, 1, 2] rfl) (jD.sub [0, 1, 2] (by decide) rfl) jS d_Mod_countAll_65
            ·
              refine lv_aload_n jx jb d_Mod_countAll_35 rfl (lv_at jl 0 rfl) ?_
              refine va_get (D := D) (ci := 4) (v := .ref rc) (C := R_Mod) (T := F_Mod) (N := 14) jx jb jts i_Mod jown jK.1 jP 0 rfl rfl 5 (by decide) (jts _ fl_Mod_16) (fun _ h9 => h9) rfl d_Mod_countAll_36 ?_
              refine lv_aload_n jx jb d_Mod_countAll_39 rfl (lv_at jl 0 rfl) ?_
              refine va_get (D := D) (ci := 4) (v := .ref ri) (C := R_Mod) (T := F_Mod) (N := 14) jx jb jts i_Mod jown jK.1 jP 0 rfl rfl 0 (by decide) (jts _ fl_Mod_7) (fun _ h9 => h9) rfl d_Mod_countAll_40 ?_
              refine lv_iload_n jx jb d_Mod_countAll_43 rfl (lv_at jl 1 rfl) ?_
              have hxq := hxi (go.toNat + n) (by omega)
              refine z_iald jx jb jK.1 jP 1 0 rfl rfl (go.toNat + n) (by omega) d_Mod_countAll_44 ?_
              refine lv_dup2_11 jx jb d_Mod_countAll_45 rfl rfl ?_
              refine z_iald jx jb jK.1 jP 2 0 rfl rfl ((xi (go.toNat + n)).toNat) (by omega) d_Mod_countAll_46 ?_
              refine lv_iconst (v := iZ 1) jx jb d_Mod_countAll_47 rfl ?_
              refine z_iadd jx jb d_Mod_countAll_48 ?_
              refine z_iast jx jb jK.1 jP jD jS 2 0 rfl rfl ((xi (go.toNat + n)).toNat) (by omega) d_Mod_countAll_49 (fun H locs jP jD jS => ?_)
              have jP : va_P D classes [(r, .inr (4, [.ref ri, .int (iZ iL), .int (iZ go), .ref ro, .int (iZ oL), .ref rc, .int (iZ (o : Int)), .ref rp, .ref rs, .ref rd, .ref rk, .ref rh, .int (iZ bP), .int (iZ bR)])), (ri, .inl (cI, 6000, .inl (zA xi))), (rc, .inl (cI, 256, .inl (zA (zu x3 ((xi (go.toNat + n)).toNat) ((x3 ((xi (go.toNat + n)).toNat)) + 1)))))] H := jP
              have jD : va_D A [(r, .inr (4, [.ref ri, .int (iZ iL), .int (iZ go), .ref ro, .int (iZ oL), .ref rc, .int (iZ (o : Int)), .ref rp, .ref rs, .ref rd, .ref rk, .ref rh, .int (iZ bP), .int (iZ bR)])), (ri, .inl (cI, 6000, .inl (zA xi))), (rc, .inl (cI, 256, .inl (zA (zu x3 ((xi (go.toNat + n)).toNat) ((x3 ((xi (go.toNat + n)).toNat)) + 1)))))] := jD
              refine lv_iinc (v := iZ (go + ((n + 1 : Nat) : Int))) (lv' := [(1, .int (iZ (go + ((n + 1 : Nat) : Int)))), (0, .ref r)]) jx jb d_Mod_countAll_50 jl (k := 1) rfl (by rw [show (go + ((n + 1 : Nat) : Int)) = (go + (n : Int)) + 1 from by omega]; exact iZ_add _ _) (by decide) rfl (fun ls jl => ?_)
              refine lv_goto (tgt := 27) jx jb d_Mod_countAll_53 (by decide) ?_
              exact ih27 (n + 1) (zu x3 ((xi (go.toNat + n)).toNat) ((x3 ((xi (go.toNat + n)).toNat)) + 1)) (by omega) (by first | assumption | omega) (cnB_s h3 hxq) _ _ (jP.sub [0, 1, 2] rfl) (jD.sub [0, 1, 2] (by decide) rfl) jS _ (lv_sub jl [1, 0] rfl)
        exact hloop27 (((iL - go).toNat - 0) + 1) 0 x2 (Nat.lt_succ_self _) (by first | assumption | omega) (fun s hs => h1 s (by omega)) _ _ (jP.sub [0, 1, 2] rfl) (jD.sub [0, 1, 2] (by decide) rfl) jS _ (lv_sub jl [1, 0] rfl)
      ·
        refine lv_aload_n jx jb d_Mod_countAll_9 rfl (lv_at jl 0 rfl) ?_
        refine va_get (D := D) (ci := 4) (v := .ref rc) (C := R_Mod) (T := F_Mod) (N := 14) jx jb jts i_Mod jown jK.1 jP 0 rfl rfl 5 (by decide) (jts _ fl_Mod_16) (fun _ h9 => h9) rfl d_Mod_countAll_10 ?_
        refine lv_iload_n jx jb d_Mod_countAll_13 rfl (lv_at jl 1 rfl) ?_
        refine lv_iconst (v := iZ 0) jx jb d_Mod_countAll_14 rfl ?_
        refine z_iast jx jb jK.1 jP jD jS 2 0 rfl rfl i (by omega) d_Mod_countAll_15 (fun H locs jP jD jS => ?_)
        have jP : va_P D classes [(r, .inr (4, [.ref ri, .int (iZ iL), .int (iZ go), .ref ro, .int (iZ oL), .ref rc, .int (iZ (o : Int)), .ref rp, .ref rs, .ref rd, .ref rk, .ref rh, .int (iZ bP), .int (iZ bR)])), (ri, .inl (cI, 6000, .inl (zA xi))), (rc, .inl (cI, 256, .inl (zA (zu x2 i 0))))] H := jP
        have jD : va_D A [(r, .inr (4, [.ref ri, .int (iZ iL), .int (iZ go), .ref ro, .int (iZ oL), .ref rc, .int (iZ (o : Int)), .ref rp, .ref rs, .ref rd, .ref rk, .ref rh, .int (iZ bP), .int (iZ bR)])), (ri, .inl (cI, 6000, .inl (zA xi))), (rc, .inl (cI, 256, .inl (zA (zu x2 i 0))))] := jD
        refine lv_iinc (v := iZ ((i : Int) + 1)) (lv' := [(1, .int (iZ ((i : Int) + 1))), (0, .ref r)]) jx jb d_Mod_countAll_16 jl (k := 1) rfl (iZ_add _ _) (by decide) rfl (fun ls jl => ?_)
        refine lv_goto (tgt := 2) jx jb d_Mod_countAll_19 (by decide) ?_
        exact ih2 (i + 1) (zu x2 i 0) (by omega) (by first | assumption | omega) (zu_all (v := fun _ => 0) h1 rfl) _ _ (jP.sub [0, 1, 2] rfl) (jD.sub [0, 1, 2] (by decide) rfl) jS _ (lv_sub jl [1, 0] rfl)
  exact hloop2 ((256 - 0) + 1) 0 xc (Nat.lt_succ_self _) (by first | assumption | omega) (fun k h => absurd h (by omega)) _ _ (jP.sub [0, 1, 2] rfl) (jD.sub [0, 1, 2] (by decide) rfl) jS _ (lv_sub jl [1, 0] rfl)
abbrev rm_M_drafted : Room := { frames := 1, cells := 0, slots := 0, locals := 20 }
set_option maxHeartbeats 4000000 in
set_option maxRecDepth 100000 in
theorem c_M_drafted (l : Launch) (D : va_G) (cI cB cZ : ClassId) (r : Nat) (ri : Nat) (ro : Nat) (rc : Nat) (rp : Nat) (rs : Nat) (rd : Nat) (rk : Nat) (rh : Nat) (iL : Int) (go : Int) (oL : Int) (o : Nat) (bP : Int) (bR : Int) (xd : Nat → Int) (hdr : ∀ k, k < 256 → -1 ≤ xd k ∧ xd k ≤ 65536) : Met l y_Mod_drafted (.code y_Mod_drafted b_Mod_drafted 3 (some .int) :: zT) rm_M_drafted (zRc D classes (TY cI cB cZ) [(r, .inr (4, [.ref ri, .int (iZ iL), .int (iZ go), .ref ro, .int (iZ oL), .ref rc, .int (iZ (o : Int)), .ref rp, .ref rs, .ref rd, .ref rk, .ref rh, .int (iZ bP), .int (iZ bR)])), (rd, .inl (cI, 256, .inl (zA xd)))] [.ref r]) (zSi (fun z => z = cum xd 256)) 0 0 (fun _ => False) := by
  refine z_ofr (by decide) (Nat.le_of_ble_eq_true rfl) (Or.inl rfl) ?_
  intro p e s m args below meth c Q E jP jK jret ls jl
  obtain ⟨jx, jb, jrt, jml, jown, jts, jlk⟩ := E
  have jown : s.vm.findClass R_Mod = some m.cls := jown
  have jl : lv_has ls 3 [(0, .ref r)] := jl
  refine lv_iconst (v := iZ 0) jx jb d_Mod_drafted_0 rfl ?_
  refine lv_istore_n (lv' := [(1, .int (iZ 0)), (0, .ref r)]) jx jb d_Mod_drafted_1 rfl jl (by decide) rfl (fun ls jl => ?_)
  refine lv_iconst (v := iZ 0) jx jb d_Mod_drafted_2 rfl ?_
  refine lv_istore_n (lv' := [(2, .int (iZ 0)), (1, .int (iZ 0)), (0, .ref r)]) jx jb d_Mod_drafted_3 rfl jl (by decide) rfl (fun ls jl => ?_)
  have hloop4 : ∀ (nF : Nat) (i : Nat), 256 - i < nF → (i ≤ 256) → ∀ ls : Array Slot, lv_has ls 3 [(0, .ref r), (1, .int (iZ (cum xd i))), (2, .int (iZ (i : Int)))] → W p l e rm_M_drafted s m args below meth c s.heap [] 0 0 Q (F0 m 4 ls []) := by
    intro nF
    induction nF with
    | zero => intro i hm; exact absurd hm (Nat.not_lt_zero _)
    | succ nF ih4 =>
      intro i hm hi ls jl
      refine lv_iload_n jx jb d_Mod_drafted_4 rfl (lv_at jl 2 rfl) ?_
      refine lv_sipush (v := iZ 256) jx jb d_Mod_drafted_5 (by decide) ?_
      refine z_icmp_ge (tgt := 29) jx jb d_Mod_drafted_8 (by decide) ⟨⟨by omega, by omega⟩, ⟨by decide, by decide⟩⟩ (fun hc8 => ?_) (fun hc8 => ?_)
      ·
        refine lv_iload_n jx jb d_Mod_drafted_29 rfl (lv_at jl 1 rfl) ?_
        exact jret _ _ _ (Or.inl rfl) (by rw [show i = 256 by omega]) d_Mod_drafted_30
      ·
        refine lv_iload_n jx jb d_Mod_drafted_11 rfl (lv_at jl 1 rfl) ?_
        refine lv_aload_n jx jb d_Mod_drafted_12 rfl (lv_at jl 0 rfl) ?_
        refine va_get (D := D) (ci := 4) (v := .ref rd) (C := R_Mod) (T := F_Mod) (N := 14) jx jb jts i_Mod jown jK.1 jP 0 rfl rfl 9 (by decide) (jts _ fl_Mod_25) (fun _ h9 => h9) rfl d_Mod_drafted_13 ?_
        refine lv_iload_n jx jb d_Mod_drafted_16 rfl (lv_at jl 2 rfl) ?_
        have hdi := hdr i (by omega)
        refine z_iald jx jb jK.1 jP 1 0 rfl rfl i (by omega) d_Mod_drafted_17 ?_
        refine z_backe (va_runS (As := [.int (iZ (xd i))]) (rest := [.int (iZ (cum xd i))]) ⟨jx, jb, jml, jown, jts⟩ (c_M_weight l D cI cB cZ (xd i) (by first | assumption | omega)) (zc_S 1 jts cd_Mod_weight lk_Mod_46 st_Mod_weight in_Mod hd_Mod_weight ⟨Nat.le_of_ble_eq_true rfl, Nat.le_of_ble_eq_true rfl⟩ rfl rfl) (z_preSR jK jP [] rfl) rfl rfl jl.1 rfl (lv_room (Nat.le_of_ble_eq_true rfl)) d_Mod_drafted_18 ⟨Nat.le_of_ble_eq_true rfl, Nat.le_of_ble_eq_true rfl⟩) ?_
        refine z_iadd jx jb d_Mod_drafted_21 ?_
        refine lv_istore_n (lv' := [(1, .int (iZ ((cum xd i) + (wgt (xd i))))), (0, .ref r), (2, .int (iZ (i : Int)))]) jx jb d_Mod_drafted_22 rfl jl (by decide) rfl (fun ls jl => ?_)
        refine lv_iinc (v := iZ ((i : Int) + 1)) (lv' := [(2, .int (iZ ((i : Int) + 1))), (1, .int (iZ ((cum xd i) + (wgt (xd i))))), (0, .ref r)]) jx jb d_Mod_drafted_23 jl (k := 2) rfl (iZ_add _ _) (by decide) rfl (fun ls jl => ?_)
        refine lv_goto (tgt := 4) jx jb d_Mod_drafted_26 (by decide) ?_
        exact ih4 (i + 1) (by omega) (by first | assumption | omega) _ (lv_sub jl [2, 1, 0] rfl)
  exact hloop4 ((256 - 0) + 1) 0 (Nat.lt_succ_self _) (by first | assumption | omega) _ (lv_sub jl [2, 1, 0] rfl)
end
section
theorem rb8_in {f : Nat → Int} {L k : Int} {j : Nat} (h : 0 ≤ k ∧ k < L) (hj : k = j) : rb8 f L k = f j % 256 := by
  unfold rb8
  rw [if_pos h, show k.toNat = j by omega]
/-! the code of a share -/
def zX (c : Nat) : Nat := 4 ^ (c / 3) - 1 + c % 3 * 4 ^ (c / 3)
def zN (c : Nat) : Nat := 2 * (c / 3 + 1)
theorem p4 (i : Nat) : 4 ^ i = 2 ^ (2 * i) := by rw [Nat.pow_mul]
theorem zP_s (V B i : Nat) : V + (4 ^ i - 1) * 2 ^ B + 3 * 2 ^ (B + 2 * i) = V + (4 ^ (i + 1) - 1) * 2 ^ B := by
  have h : 1 ≤ 4 ^ i := Nat.pow_pos (by decide)
  rw [p2c, ← p4, Nat.mul_comm (2 ^ B), ← Nat.mul_assoc, Nat.add_assoc, ← Nat.add_mul, Nat.pow_succ]
  congr 2
  omega
theorem zP_e (V B c i : Nat) (hi : i = c / 3) : V + (4 ^ i - 1) * 2 ^ B + (c - 3 * i) * 2 ^ (B + 2 * i) = V + zX c * 2 ^ B := by
  subst hi
  unfold zX
  rw [p2c, ← p4, Nat.mul_comm (2 ^ B), ← Nat.mul_assoc, Nat.add_assoc, ← Nat.add_mul, show c - 3 * (c / 3) = c % 3 by omega]
theorem rI_z {V B i : Nat} {L hd hn ov : Int} {f : Nat → Int} (h : rI (V + (4 ^ i - 1) * 2 ^ B + 3 * 2 ^ (B + 2 * i)) (B + 2 * i + 2) ((B + 2 * i + 2) / 8) L hd hn ov f) : rI (V + (4 ^ (i + 1) - 1) * 2 ^ B) (B + 2 * (i + 1)) ((B + 2 * (i + 1)) / 8) L hd hn ov f := by
  rw [zP_s] at h
  exact h
theorem rI_z0 {V B : Nat} {L hd hn ov : Int} {f : Nat → Int} (h : rI V B (B / 8) L hd hn ov f) : rI (V + (4 ^ 0 - 1) * 2 ^ B) (B + 2 * 0) ((B + 2 * 0) / 8) L hd hn ov f := by
  rw [Nat.pow_zero, Nat.sub_self, Nat.zero_mul]
  exact h
theorem rI_ze {V B c i : Nat} {L hd hn ov : Int} {f : Nat → Int} (hi : i = c / 3) (h : rI (V + (4 ^ i - 1) * 2 ^ B + (c - 3 * i) * 2 ^ (B + 2 * i)) (B + 2 * i + 2) ((B + 2 * i + 2) / 8) L hd hn ov f) : rI (V + zX c * 2 ^ B) (B + zN c) ((B + zN c) / 8) L hd hn ov f := by
  rw [zP_e V B c i hi] at h
  have e : B + zN c = B + 2 * i + 2 := by unfold zN; omega
  rw [e]
  exact h
theorem mO_z {V B i : Nat} {g : Nat → Int} (h : mO (V + (4 ^ i - 1) * 2 ^ B + 3 * 2 ^ (B + 2 * i)) (B + 2 * i + 2) g) : mO (V + (4 ^ (i + 1) - 1) * 2 ^ B) (B + 2 * (i + 1)) g := by
  rw [zP_s] at h
  exact h
theorem mO_z0 {V B : Nat} {g : Nat → Int} (h : mO V B g) : mO (V + (4 ^ 0 - 1) * 2 ^ B) (B + 2 * 0) g := by
  rw [Nat.pow_zero, Nat.sub_self, Nat.zero_mul]
  exact h
theorem mO_ze {V B c i : Nat} {g : Nat → Int} (hi : i = c / 3) (h : mO (V + (4 ^ i - 1) * 2 ^ B + (c % 3) * 2 ^ (B + 2 * i)) (B + 2 * i + 2) g) : mO (V + zX c * 2 ^ B) (B + zN c) g := by
  rw [show c % 3 = c - 3 * i by omega, zP_e V B c i hi] at h
  have e : B + zN c = B + 2 * i + 2 := by unfold zN; omega
  rw [e]
  exact h
def nzF (gP : Nat → Int) : Nat → Nat → Nat
  | 0, a => a
  | n + 1, a => if a < 256 ∧ gP a = 0 then nzF gP n (a + 1) else a
def nz (gP : Nat → Int) (a : Nat) : Nat := nzF gP 256 a
theorem nzF_is {gP : Nat → Int} {b : Nat} (hb : b ≤ 256) (he : b = 256 ∨ gP b ≠ 0) : ∀ (n a : Nat), a ≤ b → b - a ≤ n → (∀ k, a ≤ k → k < b → gP k = 0) → nzF gP n a = b
  | 0, a, h1, h2, _ => by
    show a = b
    omega
  | n + 1, a, h1, h2, h3 => by
    show (if a < 256 ∧ gP a = 0 then nzF gP n (a + 1) else a) = b
    by_cases e : a = b
    · subst e
      rw [if_neg (fun q => by rcases he with q2 | q2
                              · omega
                              · exact q2 q.2)]
    · rw [if_pos ⟨by omega, h3 a (Nat.le_refl a) (by omega)⟩]
      exact nzF_is hb he n (a + 1) (by omega) (by omega) (fun k q1 q2 => h3 k (by omega) q2)
theorem nz_is {gP : Nat → Int} {a b : Nat} (h : a ≤ b ∧ b ≤ 256 ∧ (∀ k, a ≤ k → k < b → gP k = 0) ∧ (b = 256 ∨ gP b ≠ 0)) : nz gP a = b := nzF_is h.2.1 h.2.2.2 256 a h.1 (by omega) h.2.2.1
def shC (gP : Nat → Int) : Nat → Nat → Int → Nat → Nat → Nat × Nat
  | 0, _, _, V, B => (V, B)
  | n + 1, y, R, V, B =>
    if 0 < R ∧ y < 256 then
      if gP y = 0 then shC gP n (nz gP (y + 1)) (R - wgt (gP y)) (V + numX R (gP y + 1).toNat * 2 ^ B + zX (nz gP (y + 1) - (y + 1)) * 2 ^ (B + numN R (gP y + 1).toNat)) (B + numN R (gP y + 1).toNat + zN (nz gP (y + 1) - (y + 1)))
      else shC gP n (y + 1) (R - wgt (gP y)) (V + numX R (gP y + 1).toNat * 2 ^ B) (B + numN R (gP y + 1).toNat)
    else (V, B)
theorem shC_0 {gP : Nat → Int} {n y V B : Nat} {R : Int} (h : ¬ (0 < R ∧ y < 256)) : shC gP n y R V B = (V, B) := by
  cases n with
  | zero => rfl
  | succ n => exact if_neg h
theorem shC_n {gP : Nat → Int} {n y V B : Nat} {R : Int} (h : 0 < R ∧ y < 256) (h0 : gP y ≠ 0) : shC gP (n + 1) y R V B = shC gP n (y + 1) (R - wgt (gP y)) (V + numX R (gP y + 1).toNat * 2 ^ B) (B + numN R (gP y + 1).toNat) := by
  show (if 0 < R ∧ y < 256 then _ else _) = _
  rw [if_pos h, if_neg h0]
theorem shC_z {gP : Nat → Int} {n y b V B : Nat} {R : Int} (h : 0 < R ∧ y < 256) (h0 : gP y = 0) (hb : nz gP (y + 1) = b) : shC gP (n + 1) y R V B = shC gP n b (R - wgt (gP y)) (V + numX R (gP y + 1).toNat * 2 ^ B + zX (b - (y + 1)) * 2 ^ (B + numN R (gP y + 1).toNat)) (B + numN R (gP y + 1).toNat + zN (b - (y + 1))) := by
  show (if 0 < R ∧ y < 256 then _ else _) = _
  rw [if_pos h, if_pos h0, hb]
/-- what is left of a code that is being written -/
def shR (gP : Nat → Int) (T : Nat × Nat) (y : Nat) (R : Int) (V B : Nat) : Prop := ∃ n : Nat, 257 ≤ n + y ∧ shC gP n y R V B = T
theorem shR_e {gP : Nat → Int} {T : Nat × Nat} {y V B : Nat} {R : Int} (h : shR gP T y R V B) (he : ¬ (0 < R ∧ y < 256)) : T = (V, B) := by
  obtain ⟨n, _, h2⟩ := h
  rw [← h2, shC_0 he]
theorem shR_n {gP : Nat → Int} {T : Nat × Nat} {y V B : Nat} {R : Int} (h : shR gP T y R V B) (hy : 0 < R ∧ y < 256) (h0 : gP y ≠ 0) : shR gP T (y + 1) (R - wgt (gP y)) (V + numX R (gP y + 1).toNat * 2 ^ B) (B + numN R (gP y + 1).toNat) := by
  obtain ⟨n, h1, h2⟩ := h
  cases n with
  | zero => omega
  | succ n => exact ⟨n, by omega, by rw [← shC_n hy h0]; exact h2⟩
theorem shR_z {gP : Nat → Int} {T : Nat × Nat} {y b V B : Nat} {R : Int} (h : shR gP T y R V B) (hy : 0 < R ∧ y < 256) (h0 : gP y = 0) (hb : y + 1 ≤ b ∧ b ≤ 256 ∧ (∀ k, y + 1 ≤ k → k < b → gP k = 0) ∧ (b = 256 ∨ gP b ≠ 0)) : shR gP T b (R - wgt (gP y)) (V + numX R (gP y + 1).toNat * 2 ^ B + zX (b - (y + 1)) * 2 ^ (B + numN R (gP y + 1).toNat)) (B + numN R (gP y + 1).toNat + zN (b - (y + 1))) := by
  obtain ⟨n, h1, h2⟩ := h
  cases n with
  | zero => omega
  | succ n => exact ⟨n, by omega, by rw [← shC_z hy h0 (nz_is hb)]; exact h2⟩
/-- the whole code of a share -/
def dC (gP : Nat → Int) (o : Nat) : Nat × Nat := shC gP 257 0 (2 ^ o) (o - 5) 4
theorem dC_0 {gP : Nat → Int} {o : Nat} : shR gP (dC gP o) 0 (2 ^ o) (o - 5) 4 := ⟨257, by omega, rfl⟩
/-! weights -/
theorem cum_zero {gP : Nat → Int} {a : Nat} : ∀ {b : Nat}, a ≤ b → (∀ k, a ≤ k → k < b → gP k = 0) → cum gP b = cum gP a
  | 0, h, _ => by rw [show a = 0 by omega]
  | b + 1, h, hz => by
    by_cases e : a = b + 1
    · rw [e]
    · show cum gP b + wgt (gP b) = _
      rw [hz b (by omega) (by omega), cum_zero (by omega) (fun k q1 q2 => hz k q1 (by omega))]
      exact Int.add_zero _
theorem cum_mono {gP : Nat → Int} (hp : ∀ k, k < 256 → -1 ≤ gP k ∧ gP k ≤ 65536) {a : Nat} : ∀ {b : Nat}, a ≤ b → b ≤ 256 → cum gP a ≤ cum gP b
  | 0, h, _ => by rw [show a = 0 by omega]; exact Int.le_refl _
  | b + 1, h, hb => by
    by_cases e : a = b + 1
    · rw [e]; exact Int.le_refl _
    · have h1 := cum_mono hp (a := a) (b := b) (by omega) (by omega)
      have h2 := wgt_b (hp b (by omega))
      show _ ≤ cum gP b + wgt (gP b)
      omega
theorem cum_lo {gP : Nat → Int} (hp : ∀ k, k < 256 → -1 ≤ gP k ∧ gP k ≤ 65536) {b : Nat} (hb : b ≤ 256) : 0 ≤ cum gP b := cum_mono hp (a := 0) (Nat.zero_le _) hb
theorem cum_fit {gP : Nat → Int} (hp : ∀ k, k < 256 → -1 ≤ gP k ∧ gP k ≤ 65536) {y : Nat} (hy : y < 256) : cum gP y + wgt (gP y) ≤ cum gP 256 := cum_mono hp (a := y + 1) (b := 256) (by omega) (by omega)
theorem wgt_pt {p R : Int} (h : -1 ≤ p) (hw : wgt p ≤ R) (hR : 1 ≤ R) : 0 ≤ p + 1 ∧ p + 1 ≤ R + 1 := by
  unfold wgt at hw
  split at hw <;> omega
theorem zr_step {gP : Nat → Int} {a b : Nat} (h : ∀ k, a ≤ k → k < b → gP k = 0) (h0 : gP b = 0) : ∀ k, a ≤ k → k < b + 1 → gP k = 0 := by
  intro k q1 q2
  by_cases e : k = b
  · rw [e]; exact h0
  · exact h k q1 (by omega)
theorem rI_0 {f : Nat → Int} (h : ∀ k, -128 ≤ f k ∧ f k < 128) : rI 0 0 (0 / 8) 0 0 0 0 f := ⟨by decide, by decide, rfl, rfl, rfl, rfl, fun k hk => absurd hk (by rw [show cap (0 / 8) = 0 from rfl]; omega), h⟩
theorem rI_first {x : Nat} {L hd hn ov : Int} {f : Nat → Int} (h : rI (0 + x * 2 ^ 0) (0 + 4) ((0 + 4) / 8) L hd hn ov f) : rI x 4 (4 / 8) L hd hn ov f := by
  rw [Nat.pow_zero, Nat.mul_one, Nat.zero_add] at h
  exact h
theorem R_n {R : Int} {o y : Nat} {gP : Nat → Int} (h : R = 2 ^ o - cum gP y) : R - wgt (gP y) = 2 ^ o - cum gP (y + 1) := by
  show _ = 2 ^ o - (cum gP y + wgt (gP y))
  omega
theorem R_z {R : Int} {o y b : Nat} {gP : Nat → Int} (h : R = 2 ^ o - cum gP y) (hb : y + 1 ≤ b ∧ b ≤ 256 ∧ (∀ k, y + 1 ≤ k → k < b → gP k = 0) ∧ (b = 256 ∨ gP b ≠ 0)) : R - wgt (gP y) = 2 ^ o - cum gP b := by
  rw [R_n h, cum_zero hb.1 hb.2.2.1]
theorem mO_first {x : Nat} {g : Nat → Int} (h : mO (0 + x * 2 ^ 0) (0 + 4) g) : mO x 4 g := by
  rw [Nat.pow_zero, Nat.mul_one, Nat.zero_add] at h
  exact h
theorem numN_le {R : Int} {v : Nat} (h1 : 1 ≤ R) (h2 : R ≤ 4096) : numN R v ≤ 13 := by
  have := numK_le h1 h2
  unfold numN
  split <;> omega
end
section
theorem lk_SC_59 : Cond.methodLink R_SC 59 y_Row_empty ∈ zT := zT_of (List.mem_of_getElem? (i := 187) (by decide +kernel)) rfl
theorem cd_Arrays_fill : Cond.code y_Arrays_fill b_Arrays_fill 4 none ∈ zT := zT_of (List.mem_of_getElem? (i := 190) (by decide +kernel)) rfl
theorem in_Arrays : Cond.initialized R_Arrays ∈ zT := zT_of (List.mem_of_getElem? (i := 41) (by decide +kernel)) rfl
theorem hd_Arrays_fill : y_Arrays_fill.cls ≠ "java/lang/invoke/MethodHandle" ∧ y_Arrays_fill.cls ≠ "java/lang/invoke/VarHandle" ∧ (parseMethodDescriptor y_Arrays_fill.desc).map (fun d => d.parameters.length) = some 2 := by decide +kernel
theorem lk_SC_62 : Cond.methodLink R_SC 62 y_Arrays_fill ∈ zT := zT_of (List.mem_of_getElem? (i := 188) (by decide +kernel)) rfl
theorem st_Arrays_fill : Cond.static y_Arrays_fill ∈ zT := zT_of (List.mem_of_getElem? (i := 189) (by decide +kernel)) rfl
theorem lk_ShareWriter_27 : Cond.methodLink R_ShareWriter 27 y_Share_pointsOf ∈ zT := zT_of (List.mem_of_getElem? (i := 322) (by decide +kernel)) rfl
theorem lk_ShareWriter_9 : Cond.methodLink R_ShareWriter 9 y_Row_empty ∈ zT := zT_of (List.mem_of_getElem? (i := 311) (by decide +kernel)) rfl
theorem lk_ShareWriter_14 : Cond.methodLink R_ShareWriter 14 y_Share_order ∈ zT := zT_of (List.mem_of_getElem? (i := 312) (by decide +kernel)) rfl
theorem lk_ShareWriter_24 : Cond.methodLink R_ShareWriter 24 y_Share_cells ∈ zT := zT_of (List.mem_of_getElem? (i := 321) (by decide +kernel)) rfl
theorem cd_Row_closeBits : Cond.code y_Row_closeBits b_Row_closeBits 1 none ∈ zT := zT_of (List.mem_of_getElem? (i := 345) (by decide +kernel)) rfl
theorem hd_Row_closeBits : y_Row_closeBits.cls ≠ "java/lang/invoke/MethodHandle" ∧ y_Row_closeBits.cls ≠ "java/lang/invoke/VarHandle" ∧ (parseMethodDescriptor y_Row_closeBits.desc).map (fun d => d.parameters.length) = some 0 := by decide +kernel
theorem lk_ShareWriter_44 : Cond.methodLink R_ShareWriter 44 y_Row_closeBits ∈ zT := zT_of (List.mem_of_getElem? (i := 342) (by decide +kernel)) rfl
theorem im_Row_closeBits : Cond.instanceMethod y_Row_closeBits ∈ zT := zT_of (List.mem_of_getElem? (i := 343) (by decide +kernel)) rfl
theorem se_Row_closeBits : Cond.selects R_Row y_Row_closeBits y_Row_closeBits ∈ zT := zT_of (List.mem_of_getElem? (i := 344) (by decide +kernel)) rfl
theorem cd_ShareWriter_putNumber : Cond.code y_ShareWriter_putNumber b_ShareWriter_putNumber 4 none ∈ zT := zT_of (List.mem_of_getElem? (i := 325) (by decide +kernel)) rfl
theorem in_ShareWriter : Cond.initialized R_ShareWriter ∈ zT := zT_of (List.mem_of_getElem? (i := 42) (by decide +kernel)) rfl
theorem hd_ShareWriter_putNumber : y_ShareWriter_putNumber.cls ≠ "java/lang/invoke/MethodHandle" ∧ y_ShareWriter_putNumber.cls ≠ "java/lang/invoke/VarHandle" ∧ (parseMethodDescriptor y_ShareWriter_putNumber.desc).map (fun d => d.parameters.length) = some 3 := by decide +kernel
theorem lk_ShareWriter_31 : Cond.methodLink R_ShareWriter 31 y_ShareWriter_putNumber ∈ zT := zT_of (List.mem_of_getElem? (i := 323) (by decide +kernel)) rfl
theorem st_ShareWriter_putNumber : Cond.static y_ShareWriter_putNumber ∈ zT := zT_of (List.mem_of_getElem? (i := 324) (by decide +kernel)) rfl
theorem ln_ShareWriter_37 : Cond.methodLinkNest R_ShareWriter 37 y_SC_weight R_SC ∈ lw_tbl := List.mem_of_getElem? (i := 338) (by decide +kernel)
theorem cd_ShareWriter_putZeros : Cond.code y_ShareWriter_putZeros b_ShareWriter_putZeros 5 (some .int) ∈ zT := zT_of (List.mem_of_getElem? (i := 341) (by decide +kernel)) rfl
theorem hd_ShareWriter_putZeros : y_ShareWriter_putZeros.cls ≠ "java/lang/invoke/MethodHandle" ∧ y_ShareWriter_putZeros.cls ≠ "java/lang/invoke/VarHandle" ∧ (parseMethodDescriptor y_ShareWriter_putZeros.desc).map (fun d => d.parameters.length) = some 3 := by decide +kernel
theorem lk_ShareWriter_40 : Cond.methodLink R_ShareWriter 40 y_ShareWriter_putZeros ∈ zT := zT_of (List.mem_of_getElem? (i := 339) (by decide +kernel)) rfl
theorem st_ShareWriter_putZeros : Cond.static y_ShareWriter_putZeros ∈ zT := zT_of (List.mem_of_getElem? (i := 340) (by decide +kernel)) rfl
theorem cd_ShareWriter_putShare : Cond.code y_ShareWriter_putShare b_ShareWriter_putShare 5 none ∈ zT := zT_of (List.mem_of_getElem? (i := 310) (by decide +kernel)) rfl
theorem hd_ShareWriter_putShare : y_ShareWriter_putShare.cls ≠ "java/lang/invoke/MethodHandle" ∧ y_ShareWriter_putShare.cls ≠ "java/lang/invoke/VarHandle" ∧ (parseMethodDescriptor y_ShareWriter_putShare.desc).map (fun d => d.parameters.length) = some 2 := by decide +kernel
theorem lk_SC_95 : Cond.methodLink R_SC 95 y_ShareWriter_putShare ∈ zT := zT_of (List.mem_of_getElem? (i := 308) (by decide +kernel)) rfl
theorem st_ShareWriter_putShare : Cond.static y_ShareWriter_putShare ∈ zT := zT_of (List.mem_of_getElem? (i := 309) (by decide +kernel)) rfl
theorem d_SC_clear_0 : decode b_SC_clear 0 = .ok (.aload_n 0, 1) := by decide +kernel
theorem d_SC_clear_1 : decode b_SC_clear 1 = .ok (.getfield 19, 3) := by decide +kernel
theorem d_SC_clear_4 : decode b_SC_clear 4 = .ok (.invokevirtual 59, 3) := by decide +kernel
theorem d_SC_clear_7 : decode b_SC_clear 7 = .ok (.aload_n 0, 1) := by decide +kernel
theorem d_SC_clear_8 : decode b_SC_clear 8 = .ok (.iconst 0, 1) := by decide +kernel
theorem d_SC_clear_9 : decode b_SC_clear 9 = .ok (.putfield 55, 3) := by decide +kernel
theorem d_SC_clear_12 : decode b_SC_clear 12 = .ok (.aload_n 0, 1) := by decide +kernel
theorem d_SC_clear_13 : decode b_SC_clear 13 = .ok (.getfield 9, 3) := by decide +kernel
theorem d_SC_clear_16 : decode b_SC_clear 16 = .ok (.iconst 0, 1) := by decide +kernel
theorem d_SC_clear_17 : decode b_SC_clear 17 = .ok (.invokestatic 62, 3) := by decide +kernel
theorem d_SC_clear_20 : decode b_SC_clear 20 = .ok (.return_, 1) := by decide +kernel
theorem d_SC_countAll_0 : decode b_SC_countAll 0 = .ok (.aload_n 0, 1) := by decide +kernel
theorem d_SC_countAll_1 : decode b_SC_countAll 1 = .ok (.getfield 9, 3) := by decide +kernel
theorem d_SC_countAll_4 : decode b_SC_countAll 4 = .ok (.iconst 0, 1) := by decide +kernel
theorem d_SC_countAll_5 : decode b_SC_countAll 5 = .ok (.invokestatic 62, 3) := by decide +kernel
theorem d_SC_countAll_8 : decode b_SC_countAll 8 = .ok (.aload_n 0, 1) := by decide +kernel
theorem d_SC_countAll_9 : decode b_SC_countAll 9 = .ok (.getfield 55, 3) := by decide +kernel
theorem d_SC_countAll_12 : decode b_SC_countAll 12 = .ok (.istore_n 1, 1) := by decide +kernel
theorem d_SC_countAll_13 : decode b_SC_countAll 13 = .ok (.iload_n 1, 1) := by decide +kernel
theorem d_SC_countAll_14 : decode b_SC_countAll 14 = .ok (.aload_n 0, 1) := by decide +kernel
theorem d_SC_countAll_15 : decode b_SC_countAll 15 = .ok (.getfield 19, 3) := by decide +kernel
theorem d_SC_countAll_18 : decode b_SC_countAll 18 = .ok (.invokevirtual 43, 3) := by decide +kernel
theorem d_SC_countAll_21 : decode b_SC_countAll 21 = .ok (.if_icmp .ge 26, 3) := by decide +kernel
theorem d_SC_countAll_24 : decode b_SC_countAll 24 = .ok (.aload_n 0, 1) := by decide +kernel
theorem d_SC_countAll_25 : decode b_SC_countAll 25 = .ok (.getfield 9, 3) := by decide +kernel
theorem d_SC_countAll_28 : decode b_SC_countAll 28 = .ok (.aload_n 0, 1) := by decide +kernel
theorem d_SC_countAll_29 : decode b_SC_countAll 29 = .ok (.getfield 19, 3) := by decide +kernel
theorem d_SC_countAll_32 : decode b_SC_countAll 32 = .ok (.iload_n 1, 1) := by decide +kernel
theorem d_SC_countAll_33 : decode b_SC_countAll 33 = .ok (.invokevirtual 73, 3) := by decide +kernel
theorem d_SC_countAll_36 : decode b_SC_countAll 36 = .ok (.dup2, 1) := by decide +kernel
theorem d_SC_countAll_37 : decode b_SC_countAll 37 = .ok (.iaload, 1) := by decide +kernel
theorem d_SC_countAll_38 : decode b_SC_countAll 38 = .ok (.iconst 1, 1) := by decide +kernel
theorem d_SC_countAll_39 : decode b_SC_countAll 39 = .ok (.iadd, 1) := by decide +kernel
theorem d_SC_countAll_40 : decode b_SC_countAll 40 = .ok (.iastore, 1) := by decide +kernel
theorem d_SC_countAll_41 : decode b_SC_countAll 41 = .ok (.iinc 1 1, 3) := by decide +kernel
theorem d_SC_countAll_44 : decode b_SC_countAll 44 = .ok (.goto (-31), 3) := by decide +kernel
theorem d_SC_countAll_47 : decode b_SC_countAll 47 = .ok (.aload_n 0, 1) := by decide +kernel
theorem d_SC_countAll_48 : decode b_SC_countAll 48 = .ok (.getfield 19, 3) := by decide +kernel
theorem d_SC_countAll_51 : decode b_SC_countAll 51 = .ok (.invokevirtual 43, 3) := by decide +kernel
theorem d_SC_countAll_54 : decode b_SC_countAll 54 = .ok (.aload_n 0, 1) := by decide +kernel
theorem d_SC_countAll_55 : decode b_SC_countAll 55 = .ok (.getfield 55, 3) := by decide +kernel
theorem d_SC_countAll_58 : decode b_SC_countAll 58 = .ok (.isub, 1) := by decide +kernel
theorem d_SC_countAll_59 : decode b_SC_countAll 59 = .ok (.ireturn, 1) := by decide +kernel
theorem d_ShareWriter_putZeros_0 : decode b_ShareWriter_putZeros 0 = .ok (.iload_n 1, 1) := by decide +kernel
theorem d_ShareWriter_putZeros_1 : decode b_ShareWriter_putZeros 1 = .ok (.istore_n 3, 1) := by decide +kernel
theorem d_ShareWriter_putZeros_2 : decode b_ShareWriter_putZeros 2 = .ok (.iload_n 3, 1) := by decide +kernel
theorem d_ShareWriter_putZeros_3 : decode b_ShareWriter_putZeros 3 = .ok (.sipush 256, 3) := by decide +kernel
theorem d_ShareWriter_putZeros_6 : decode b_ShareWriter_putZeros 6 = .ok (.if_icmp .ge 17, 3) := by decide +kernel
theorem d_ShareWriter_putZeros_9 : decode b_ShareWriter_putZeros 9 = .ok (.aload_n 0, 1) := by decide +kernel
theorem d_ShareWriter_putZeros_10 : decode b_ShareWriter_putZeros 10 = .ok (.iload_n 3, 1) := by decide +kernel
theorem d_ShareWriter_putZeros_11 : decode b_ShareWriter_putZeros 11 = .ok (.invokevirtual 27, 3) := by decide +kernel
theorem d_ShareWriter_putZeros_14 : decode b_ShareWriter_putZeros 14 = .ok (.ifCond .ne 9, 3) := by decide +kernel
theorem d_ShareWriter_putZeros_17 : decode b_ShareWriter_putZeros 17 = .ok (.iinc 3 1, 3) := by decide +kernel
theorem d_ShareWriter_putZeros_20 : decode b_ShareWriter_putZeros 20 = .ok (.goto (-18), 3) := by decide +kernel
theorem d_ShareWriter_putZeros_23 : decode b_ShareWriter_putZeros 23 = .ok (.iload_n 3, 1) := by decide +kernel
theorem d_ShareWriter_putZeros_24 : decode b_ShareWriter_putZeros 24 = .ok (.iload_n 1, 1) := by decide +kernel
theorem d_ShareWriter_putZeros_25 : decode b_ShareWriter_putZeros 25 = .ok (.isub, 1) := by decide +kernel
theorem d_ShareWriter_putZeros_26 : decode b_ShareWriter_putZeros 26 = .ok (.istore 4, 2) := by decide +kernel
theorem d_ShareWriter_putZeros_28 : decode b_ShareWriter_putZeros 28 = .ok (.iload 4, 2) := by decide +kernel
theorem d_ShareWriter_putZeros_30 : decode b_ShareWriter_putZeros 30 = .ok (.iconst 3, 1) := by decide +kernel
theorem d_ShareWriter_putZeros_31 : decode b_ShareWriter_putZeros 31 = .ok (.if_icmp .lt 15, 3) := by decide +kernel
theorem d_ShareWriter_putZeros_34 : decode b_ShareWriter_putZeros 34 = .ok (.aload_n 2, 1) := by decide +kernel
theorem d_ShareWriter_putZeros_35 : decode b_ShareWriter_putZeros 35 = .ok (.iconst 3, 1) := by decide +kernel
theorem d_ShareWriter_putZeros_36 : decode b_ShareWriter_putZeros 36 = .ok (.iconst 2, 1) := by decide +kernel
theorem d_ShareWriter_putZeros_37 : decode b_ShareWriter_putZeros 37 = .ok (.invokevirtual 20, 3) := by decide +kernel
theorem d_ShareWriter_putZeros_40 : decode b_ShareWriter_putZeros 40 = .ok (.iinc 4 (-3), 3) := by decide +kernel
theorem d_ShareWriter_putZeros_43 : decode b_ShareWriter_putZeros 43 = .ok (.goto (-15), 3) := by decide +kernel
theorem d_ShareWriter_putZeros_46 : decode b_ShareWriter_putZeros 46 = .ok (.aload_n 2, 1) := by decide +kernel
theorem d_ShareWriter_putZeros_47 : decode b_ShareWriter_putZeros 47 = .ok (.iload 4, 2) := by decide +kernel
theorem d_ShareWriter_putZeros_49 : decode b_ShareWriter_putZeros 49 = .ok (.iconst 2, 1) := by decide +kernel
theorem d_ShareWriter_putZeros_50 : decode b_ShareWriter_putZeros 50 = .ok (.invokevirtual 20, 3) := by decide +kernel
theorem d_ShareWriter_putZeros_53 : decode b_ShareWriter_putZeros 53 = .ok (.iload_n 3, 1) := by decide +kernel
theorem d_ShareWriter_putZeros_54 : decode b_ShareWriter_putZeros 54 = .ok (.ireturn, 1) := by decide +kernel
theorem d_ShareWriter_putShare_0 : decode b_ShareWriter_putShare 0 = .ok (.aload_n 1, 1) := by decide +kernel
theorem d_ShareWriter_putShare_1 : decode b_ShareWriter_putShare 1 = .ok (.invokevirtual 9, 3) := by decide +kernel
theorem d_ShareWriter_putShare_4 : decode b_ShareWriter_putShare 4 = .ok (.aload_n 1, 1) := by decide +kernel
theorem d_ShareWriter_putShare_5 : decode b_ShareWriter_putShare 5 = .ok (.aload_n 0, 1) := by decide +kernel
theorem d_ShareWriter_putShare_6 : decode b_ShareWriter_putShare 6 = .ok (.invokevirtual 14, 3) := by decide +kernel
theorem d_ShareWriter_putShare_9 : decode b_ShareWriter_putShare 9 = .ok (.iconst 5, 1) := by decide +kernel
theorem d_ShareWriter_putShare_10 : decode b_ShareWriter_putShare 10 = .ok (.isub, 1) := by decide +kernel
theorem d_ShareWriter_putShare_11 : decode b_ShareWriter_putShare 11 = .ok (.iconst 4, 1) := by decide +kernel
theorem d_ShareWriter_putShare_12 : decode b_ShareWriter_putShare 12 = .ok (.invokevirtual 20, 3) := by decide +kernel
theorem d_ShareWriter_putShare_15 : decode b_ShareWriter_putShare 15 = .ok (.aload_n 0, 1) := by decide +kernel
theorem d_ShareWriter_putShare_16 : decode b_ShareWriter_putShare 16 = .ok (.invokevirtual 24, 3) := by decide +kernel
theorem d_ShareWriter_putShare_19 : decode b_ShareWriter_putShare 19 = .ok (.istore_n 2, 1) := by decide +kernel
theorem d_ShareWriter_putShare_20 : decode b_ShareWriter_putShare 20 = .ok (.iconst 0, 1) := by decide +kernel
theorem d_ShareWriter_putShare_21 : decode b_ShareWriter_putShare 21 = .ok (.istore_n 3, 1) := by decide +kernel
theorem d_ShareWriter_putShare_22 : decode b_ShareWriter_putShare 22 = .ok (.iload_n 2, 1) := by decide +kernel
theorem d_ShareWriter_putShare_23 : decode b_ShareWriter_putShare 23 = .ok (.ifCond .le 52, 3) := by decide +kernel
theorem d_ShareWriter_putShare_26 : decode b_ShareWriter_putShare 26 = .ok (.iload_n 3, 1) := by decide +kernel
theorem d_ShareWriter_putShare_27 : decode b_ShareWriter_putShare 27 = .ok (.sipush 256, 3) := by decide +kernel
theorem d_ShareWriter_putShare_30 : decode b_ShareWriter_putShare 30 = .ok (.if_icmp .ge 45, 3) := by decide +kernel
theorem d_ShareWriter_putShare_33 : decode b_ShareWriter_putShare 33 = .ok (.aload_n 0, 1) := by decide +kernel
theorem d_ShareWriter_putShare_34 : decode b_ShareWriter_putShare 34 = .ok (.iload_n 3, 1) := by decide +kernel
theorem d_ShareWriter_putShare_35 : decode b_ShareWriter_putShare 35 = .ok (.invokevirtual 27, 3) := by decide +kernel
theorem d_ShareWriter_putShare_38 : decode b_ShareWriter_putShare 38 = .ok (.istore 4, 2) := by decide +kernel
theorem d_ShareWriter_putShare_40 : decode b_ShareWriter_putShare 40 = .ok (.iload 4, 2) := by decide +kernel
theorem d_ShareWriter_putShare_42 : decode b_ShareWriter_putShare 42 = .ok (.iconst 1, 1) := by decide +kernel
theorem d_ShareWriter_putShare_43 : decode b_ShareWriter_putShare 43 = .ok (.iadd, 1) := by decide +kernel
theorem d_ShareWriter_putShare_44 : decode b_ShareWriter_putShare 44 = .ok (.iload_n 2, 1) := by decide +kernel
theorem d_ShareWriter_putShare_45 : decode b_ShareWriter_putShare 45 = .ok (.aload_n 1, 1) := by decide +kernel
theorem d_ShareWriter_putShare_46 : decode b_ShareWriter_putShare 46 = .ok (.invokestatic 31, 3) := by decide +kernel
theorem d_ShareWriter_putShare_49 : decode b_ShareWriter_putShare 49 = .ok (.iload_n 2, 1) := by decide +kernel
theorem d_ShareWriter_putShare_50 : decode b_ShareWriter_putShare 50 = .ok (.iload 4, 2) := by decide +kernel
theorem d_ShareWriter_putShare_52 : decode b_ShareWriter_putShare 52 = .ok (.invokestatic 37, 3) := by decide +kernel
theorem d_ShareWriter_putShare_55 : decode b_ShareWriter_putShare 55 = .ok (.isub, 1) := by decide +kernel
theorem d_ShareWriter_putShare_56 : decode b_ShareWriter_putShare 56 = .ok (.istore_n 2, 1) := by decide +kernel
theorem d_ShareWriter_putShare_57 : decode b_ShareWriter_putShare 57 = .ok (.iinc 3 1, 3) := by decide +kernel
theorem d_ShareWriter_putShare_60 : decode b_ShareWriter_putShare 60 = .ok (.iload 4, 2) := by decide +kernel
theorem d_ShareWriter_putShare_62 : decode b_ShareWriter_putShare 62 = .ok (.ifCond .ne 10, 3) := by decide +kernel
theorem d_ShareWriter_putShare_65 : decode b_ShareWriter_putShare 65 = .ok (.aload_n 0, 1) := by decide +kernel
theorem d_ShareWriter_putShare_66 : decode b_ShareWriter_putShare 66 = .ok (.iload_n 3, 1) := by decide +kernel
theorem d_ShareWriter_putShare_67 : decode b_ShareWriter_putShare 67 = .ok (.aload_n 1, 1) := by decide +kernel
theorem d_ShareWriter_putShare_68 : decode b_ShareWriter_putShare 68 = .ok (.invokestatic 40, 3) := by decide +kernel
theorem d_ShareWriter_putShare_71 : decode b_ShareWriter_putShare 71 = .ok (.istore_n 3, 1) := by decide +kernel
theorem d_ShareWriter_putShare_72 : decode b_ShareWriter_putShare 72 = .ok (.goto (-50), 3) := by decide +kernel
theorem d_ShareWriter_putShare_75 : decode b_ShareWriter_putShare 75 = .ok (.aload_n 1, 1) := by decide +kernel
theorem d_ShareWriter_putShare_76 : decode b_ShareWriter_putShare 76 = .ok (.invokevirtual 44, 3) := by decide +kernel
theorem d_ShareWriter_putShare_79 : decode b_ShareWriter_putShare 79 = .ok (.return_, 1) := by decide +kernel
theorem d_SC_describe_0 : decode b_SC_describe 0 = .ok (.aload_n 0, 1) := by decide +kernel
theorem d_SC_describe_1 : decode b_SC_describe 1 = .ok (.getfield 26, 3) := by decide +kernel
theorem d_SC_describe_4 : decode b_SC_describe 4 = .ok (.invokevirtual 91, 3) := by decide +kernel
theorem d_SC_describe_7 : decode b_SC_describe 7 = .ok (.ifCond .ne 5, 3) := by decide +kernel
theorem d_SC_describe_10 : decode b_SC_describe 10 = .ok (.iconst (-1), 1) := by decide +kernel
theorem d_SC_describe_11 : decode b_SC_describe 11 = .ok (.ireturn, 1) := by decide +kernel
theorem d_SC_describe_12 : decode b_SC_describe 12 = .ok (.aload_n 0, 1) := by decide +kernel
theorem d_SC_describe_13 : decode b_SC_describe 13 = .ok (.getfield 26, 3) := by decide +kernel
theorem d_SC_describe_16 : decode b_SC_describe 16 = .ok (.aload_n 0, 1) := by decide +kernel
theorem d_SC_describe_17 : decode b_SC_describe 17 = .ok (.getfield 37, 3) := by decide +kernel
theorem d_SC_describe_20 : decode b_SC_describe 20 = .ok (.invokestatic 95, 3) := by decide +kernel
theorem d_SC_describe_23 : decode b_SC_describe 23 = .ok (.aload_n 0, 1) := by decide +kernel
theorem d_SC_describe_24 : decode b_SC_describe 24 = .ok (.getfield 37, 3) := by decide +kernel
theorem d_SC_describe_27 : decode b_SC_describe 27 = .ok (.invokevirtual 43, 3) := by decide +kernel
theorem d_SC_describe_30 : decode b_SC_describe 30 = .ok (.ireturn, 1) := by decide +kernel
abbrev rm_SC_clear : Room := { frames := 1, cells := 0, slots := 0, locals := 23 }
set_option maxHeartbeats 4000000 in
set_option maxRecDepth 100000 in
theorem c_SC_clear (l : Launch) (D : va_G) (cI cB cZ : ClassId) (sz : Nat) (g : Nat) (qc : Nat) (qp : Nat) (qi : Nat) (qs : Nat) (qr : Nat) (qo : Nat) (qx : Nat) (ps : Int) (bi : Nat) (Li : Int) (hdi : Int) (hni : Int) (ovi : Int) (tsi : Int) (tbi : Int) (fc : Nat → Int) : Met l y_SC_clear (.code y_SC_clear b_SC_clear 1 none :: zT) rm_SC_clear (zPc D classes (TY cI cB cZ) [(g, .inr (3, [.ref qc, .ref qp, .ref qi, .ref qs, .ref qr, .ref qo, .ref qx, .int (iZ ps)])), (qi, .inr (0, [.ref bi, .int (iZ Li), .int (iZ hdi), .int (iZ hni), .int (iZ ovi), .int (iZ tsi), .int (iZ tbi)])), (qc, .inl (cI, 256, .inl (zA fc)))] sz [.ref g]) (zFv (S := Nat → Int) D classes (fun u => ∀ k, k < 256 → u k = 0) (fun u => [(g, .inr (3, [.ref qc, .ref qp, .ref qi, .ref qs, .ref qr, .ref qo, .ref qx, .int (iZ 0)])), (qi, .inr (0, [.ref bi, .int (iZ 0), .int (iZ 0), .int (iZ 0), .int (iZ 0), .int (iZ tsi), .int (iZ tbi)])), (qc, .inl (cI, 256, .inl (zA u)))]) (va_A [(g, .inr (3, [.ref qc, .ref qp, .ref qi, .ref qs, .ref qr, .ref qo, .ref qx, .int (iZ ps)])), (qi, .inr (0, [.ref bi, .int (iZ Li), .int (iZ hdi), .int (iZ hni), .int (iZ ovi), .int (iZ tsi), .int (iZ tbi)])), (qc, .inl (cI, 256, .inl (zA fc)))] sz)) 0 0 (va_A [(g, .inr (3, [.ref qc, .ref qp, .ref qi, .ref qs, .ref qr, .ref qo, .ref qx, .int (iZ ps)])), (qi, .inr (0, [.ref bi, .int (iZ Li), .int (iZ hdi), .int (iZ hni), .int (iZ ovi), .int (iZ tsi), .int (iZ tbi)])), (qc, .inl (cI, 256, .inl (zA fc)))] sz) := by
  refine z_ofv (by decide) (Nat.le_of_ble_eq_true rfl) rfl ?_
  intro p e s m args below meth c A Q E jmn jA jK jret H locs jP jD jS ls jl
  obtain ⟨jx, jb, jrt, jml, jown, jts, jlk⟩ := E
  have jown : s.vm.findClass R_SC = some m.cls := jown
  have jl : lv_has ls 1 [(0, .ref g)] := jl
  refine lv_aload_n jx jb d_SC_clear_0 rfl (lv_at jl 0 rfl) ?_
  refine va_get (D := D) (ci := 3) (v := .ref qi) (C := R_SC) (T := F_SC) (N := 8) jx jb jts i_SC jown jK.1 jP 0 rfl rfl 2 (by decide) (jts _ fl_SC_19) (fun _ h9 => h9) rfl d_SC_clear_1 ?_
  refine z_backv (wr := [(g, .inr (3, [.ref qc, .ref qp, .ref qi, .ref qs, .ref qr, .ref qo, .ref qx, .int (iZ ps)])), (qc, .inl (cI, 256, .inl (zA fc)))]) jP jD jS jA [1] [0, 2] rfl rfl (by decide) (by decide) (va_runV (As := []) (rest := []) ⟨jx, jb, jml, jown, jts⟩ (c_Row_empty l D cI cB cZ H.size qi bi Li hdi hni ovi tsi tbi) (zc_V 0 jts cd_Row_empty lk_SC_59 im_Row_empty se_Row_empty in_Row hd_Row_empty ⟨Nat.le_of_ble_eq_true rfl, Nat.le_of_ble_eq_true rfl⟩ rfl rfl) (z_preV jK jP jD [1] (by decide) rfl rfl rfl rfl) rfl rfl jl.1 rfl (lv_room (Nat.le_of_ble_eq_true rfl)) d_SC_clear_4 ⟨Nat.le_of_ble_eq_true rfl, Nat.le_of_ble_eq_true rfl⟩) (fun u4 H locs hu4 jP jD jS => ?_)
  have jP : va_P D classes [(g, .inr (3, [.ref qc, .ref qp, .ref qi, .ref qs, .ref qr, .ref qo, .ref qx, .int (iZ ps)])), (qi, .inr (0, [.ref bi, .int (iZ 0), .int (iZ 0), .int (iZ 0), .int (iZ 0), .int (iZ tsi), .int (iZ tbi)])), (qc, .inl (cI, 256, .inl (zA fc)))] H := jP.sub [0, 2, 1] rfl
  have jD : va_D A [(g, .inr (3, [.ref qc, .ref qp, .ref qi, .ref qs, .ref qr, .ref qo, .ref qx, .int (iZ ps)])), (qi, .inr (0, [.ref bi, .int (iZ 0), .int (iZ 0), .int (iZ 0), .int (iZ 0), .int (iZ tsi), .int (iZ tbi)])), (qc, .inl (cI, 256, .inl (zA fc)))] := jD.sub [0, 2, 1] (by decide) rfl
  refine lv_aload_n jx jb d_SC_clear_7 rfl (lv_at jl 0 rfl) ?_
  refine lv_iconst (v := iZ 0) jx jb d_SC_clear_8 rfl ?_
  refine va_put (D := D) (ci := 3) (v := .int (iZ 0)) (ty := .int) (C := R_SC) (T := F_SC) (N := 8) jx jb jts i_SC t_SC t_SC_ok n_SC jown jK.1 jP jD jS 0 rfl rfl 7 (by decide) (jts _ fl_SC_55) (fun _ h9 => h9) rfl (by decide +kernel) rfl rfl (Nat.le_of_ble_eq_true rfl) d_SC_clear_9 (fun H locs jP jD jS => ?_)
  have jP : va_P D classes [(g, .inr (3, [.ref qc, .ref qp, .ref qi, .ref qs, .ref qr, .ref qo, .ref qx, .int (iZ 0)])), (qi, .inr (0, [.ref bi, .int (iZ 0), .int (iZ 0), .int (iZ 0), .int (iZ 0), .int (iZ tsi), .int (iZ tbi)])), (qc, .inl (cI, 256, .inl (zA fc)))] H := jP
  have jD : va_D A [(g, .inr (3, [.ref qc, .ref qp, .ref qi, .ref qs, .ref qr, .ref qo, .ref qx, .int (iZ 0)])), (qi, .inr (0, [.ref bi, .int (iZ 0), .int (iZ 0), .int (iZ 0), .int (iZ 0), .int (iZ tsi), .int (iZ tbi)])), (qc, .inl (cI, 256, .inl (zA fc)))] := jD
  refine lv_aload_n jx jb d_SC_clear_12 rfl (lv_at jl 0 rfl) ?_
  refine va_get (D := D) (ci := 3) (v := .ref qc) (C := R_SC) (T := F_SC) (N := 8) jx jb jts i_SC jown jK.1 jP 0 rfl rfl 0 (by decide) (jts _ fl_SC_9) (fun _ h9 => h9) rfl d_SC_clear_13 ?_
  refine lv_iconst (v := iZ 0) jx jb d_SC_clear_16 rfl ?_
  refine z_backv (wr := [(g, .inr (3, [.ref qc, .ref qp, .ref qi, .ref qs, .ref qr, .ref qo, .ref qx, .int (iZ 0)])), (qi, .inr (0, [.ref bi, .int (iZ 0), .int (iZ 0), .int (iZ 0), .int (iZ 0), .int (iZ tsi), .int (iZ tbi)]))]) jP jD jS jA [2] [0, 1] rfl rfl (by decide) (by decide) (va_runS (As := [.ref qc, .int (iZ 0)]) (rest := []) ⟨jx, jb, jml, jown, jts⟩ (c_fill l D cI cB cZ H.size qc fc 0 (by first | assumption | omega)) (zc_S 2 jts cd_Arrays_fill lk_SC_62 st_Arrays_fill in_Arrays hd_Arrays_fill ⟨Nat.le_of_ble_eq_true rfl, Nat.le_of_ble_eq_true rfl⟩ rfl rfl) (z_preS jK jP jD [2] (by decide) rfl rfl) rfl rfl jl.1 rfl (lv_room (Nat.le_of_ble_eq_true rfl)) d_SC_clear_17 ⟨Nat.le_of_ble_eq_true rfl, Nat.le_of_ble_eq_true rfl⟩) (fun u17 H locs hu17 jP jD jS => ?_)
  have jP : va_P D classes [(g, .inr (3, [.ref qc, .ref qp, .ref qi, .ref qs, .ref qr, .ref qo, .ref qx, .int (iZ 0)])), (qi, .inr (0, [.ref bi, .int (iZ 0), .int (iZ 0), .int (iZ 0), .int (iZ 0), .int (iZ tsi), .int (iZ tbi)])), (qc, .inl (cI, 256, .inl (zA (fun k => if k < 256 then 0 else fc k))))] H := jP.sub [0, 1, 2] rfl
  have jD : va_D A [(g, .inr (3, [.ref qc, .ref qp, .ref qi, .ref qs, .ref qr, .ref qo, .ref qx, .int (iZ 0)])), (qi, .inr (0, [.ref bi, .int (iZ 0), .int (iZ 0), .int (iZ 0), .int (iZ 0), .int (iZ tsi), .int (iZ tbi)])), (qc, .inl (cI, 256, .inl (zA (fun k => if k < 256 then 0 else fc k))))] := jD.sub [0, 1, 2] (by decide) rfl
  exact jret _ _ ((fun k => if k < 256 then 0 else fc k)) _ _ (fun k h => if_pos h) (jP.sub [0, 1, 2] rfl) (jD.sub [0, 1, 2] (by decide) rfl) jS d_SC_clear_20
abbrev rm_SC_countAll : Room := { frames := 1, cells := 0, slots := 0, locals := 23 }
set_option maxHeartbeats 4000000 in
set_option maxRecDepth 100000 in
theorem c_SC_countAll (l : Launch) (D : va_G) (cI cB cZ : ClassId) (sz : Nat) (g : Nat) (qc : Nat) (qp : Nat) (qi : Nat) (qs : Nat) (qr : Nat) (qo : Nat) (qx : Nat) (ps : Int) (bi : Nat) (Li : Int) (hdi : Int) (hni : Int) (ovi : Int) (tsi : Int) (tbi : Int) (fi : Nat → Int) (fc : Nat → Int) (hLi : 0 ≤ Li ∧ Li ≤ 6000) (hps : 0 ≤ ps ∧ ps ≤ Li) : Met l y_SC_countAll (.code y_SC_countAll b_SC_countAll 2 (some .int) :: zT) rm_SC_countAll (zPc D classes (TY cI cB cZ) [(g, .inr (3, [.ref qc, .ref qp, .ref qi, .ref qs, .ref qr, .ref qo, .ref qx, .int (iZ ps)])), (qi, .inr (0, [.ref bi, .int (iZ Li), .int (iZ hdi), .int (iZ hni), .int (iZ ovi), .int (iZ tsi), .int (iZ tbi)])), (bi, .inl (cB, 6000, .inl (zA fi))), (qc, .inl (cI, 256, .inl (zA fc)))] sz [.ref g]) (zFi (S := Nat → Int) D classes (fun z u => z = Li - ps ∧ ∀ k, k < 256 → u k = cnB (fun j => fi j % 256) ps.toNat (Li - ps).toNat k) (fun u => [(g, .inr (3, [.ref qc, .ref qp, .ref qi, .ref qs, .ref qr, .ref qo, .ref qx, .int (iZ ps)])), (qi, .inr (0, [.ref bi, .int (iZ Li), .int (iZ hdi), .int (iZ hni), .int (iZ ovi), .int (iZ tsi), .int (iZ tbi)])), (bi, .inl (cB, 6000, .inl (zA fi))), (qc, .inl (cI, 256, .inl (zA u)))]) (va_A [(g, .inr (3, [.ref qc, .ref qp, .ref qi, .ref qs, .ref qr, .ref qo, .ref qx, .int (iZ ps)])), (qi, .inr (0, [.ref bi, .int (iZ Li), .int (iZ hdi), .int (iZ hni), .int (iZ ovi), .int (iZ tsi), .int (iZ tbi)])), (bi, .inl (cB, 6000, .inl (zA fi))), (qc, .inl (cI, 256, .inl (zA fc)))] sz)) 0 0 (va_A [(g, .inr (3, [.ref qc, .ref qp, .ref qi, .ref qs, .ref qr, .ref qo, .ref qx, .int (iZ ps)])), (qi, .inr (0, [.ref bi, .int (iZ Li), .int (iZ hdi), .int (iZ hni), .int (iZ ovi), .int (iZ tsi), .int (iZ tbi)])), (bi, .inl (cB, 6000, .inl (zA fi))), (qc, .inl (cI, 256, .inl (zA fc)))] sz) := by
  refine z_ofi (by decide) (Nat.le_of_ble_eq_true rfl) (Or.inl rfl) ?_
  intro p e s m args below meth c A Q E jA jK jret H locs jP jD jS ls jl
  obtain ⟨jx, jb, jrt, jml, jown, jts, jlk⟩ := E
  have jown : s.vm.findClass R_SC = some m.cls := jown
  have jl : lv_has ls 2 [(0, .ref g)] := jl
  refine lv_aload_n jx jb d_SC_countAll_0 rfl (lv_at jl 0 rfl) ?_
  refine va_get (D := D) (ci := 3) (v := .ref qc) (C := R_SC) (T := F_SC) (N := 8) jx jb jts i_SC jown jK.1 jP 0 rfl rfl 0 (by decide) (jts _ fl_SC_9) (fun _ h9 => h9) rfl d_SC_countAll_1 ?_
  refine lv_iconst (v := iZ 0) jx jb d_SC_countAll_4 rfl ?_
  refine z_backv (wr := [(g, .inr (3, [.ref qc, .ref qp, .ref qi, .ref qs, .ref qr, .ref qo, .ref qx, .int (iZ ps)])), (qi, .inr (0, [.ref bi, .int (iZ Li), .int (iZ hdi), .int (iZ hni), .int (iZ ovi), .int (iZ tsi), .int (iZ tbi)])), (bi, .inl (cB, 6000, .inl (zA fi)))]) jP jD jS jA [3] [0, 1, 2] rfl rfl (by decide) (by decide) (va_runS (As := [.ref qc, .int (iZ 0)]) (rest := []) ⟨jx, jb, jml, jown, jts⟩ (c_fill l D cI cB cZ H.size qc fc 0 (by first | assumption | omega)) (zc_S 2 jts cd_Arrays_fill lk_SC_62 st_Arrays_fill in_Arrays hd_Arrays_fill ⟨Nat.le_of_ble_eq_true rfl, Nat.le_of_ble_eq_true rfl⟩ rfl rfl) (z_preS jK jP jD [3] (by decide) rfl rfl) rfl rfl jl.1 rfl (lv_room (Nat.le_of_ble_eq_true rfl)) d_SC_countAll_5 ⟨Nat.le_of_ble_eq_true rfl, Nat.le_of_ble_eq_true rfl⟩) (fun u5 H locs hu5 jP jD jS => ?_)
  have jP : va_P D classes [(g, .inr (3, [.ref qc, .ref qp, .ref qi, .ref qs, .ref qr, .ref qo, .ref qx, .int (iZ ps)])), (qi, .inr (0, [.ref bi, .int (iZ Li), .int (iZ hdi), .int (iZ hni), .int (iZ ovi), .int (iZ tsi), .int (iZ tbi)])), (bi, .inl (cB, 6000, .inl (zA fi))), (qc, .inl (cI, 256, .inl (zA (fun k => if k < 256 then 0 else fc k))))] H := jP.sub [0, 1, 2, 3] rfl
  have jD : va_D A [(g, .inr (3, [.ref qc, .ref qp, .ref qi, .ref qs, .ref qr, .ref qo, .ref qx, .int (iZ ps)])), (qi, .inr (0, [.ref bi, .int (iZ Li), .int (iZ hdi), .int (iZ hni), .int (iZ ovi), .int (iZ tsi), .int (iZ tbi)])), (bi, .inl (cB, 6000, .inl (zA fi))), (qc, .inl (cI, 256, .inl (zA (fun k => if k < 256 then 0 else fc k))))] := jD.sub [0, 1, 2, 3] (by decide) rfl
  refine lv_aload_n jx jb d_SC_countAll_8 rfl (lv_at jl 0 rfl) ?_
  refine va_get (D := D) (ci := 3) (v := .int (iZ ps)) (C := R_SC) (T := F_SC) (N := 8) jx jb jts i_SC jown jK.1 jP 0 rfl rfl 7 (by decide) (jts _ fl_SC_55) (fun _ h9 => h9) rfl d_SC_countAll_9 ?_
  refine z_top (ps + ((0 : Nat) : Int)) (by omega) ?_
  refine lv_istore_n (lv' := [(1, .int (iZ (ps + ((0 : Nat) : Int)))), (0, .ref g)]) jx jb d_SC_countAll_12 rfl jl (by decide) rfl (fun ls jl => ?_)
  have hloop13 : ∀ (nF : Nat) (n : Nat) (x3 : Nat → Int), (Li - ps).toNat - n < nF → ((n : Int) ≤ Li - ps) → (∀ s, s < 256 → x3 s = cnB (fun j => fi j % 256) ps.toNat n s) → ∀ (H : Heap) (locs : List Loc), va_P D classes [(g, .inr (3, [.ref qc, .ref qp, .ref qi, .ref qs, .ref qr, .ref qo, .ref qx, .int (iZ ps)])), (qi, .inr (0, [.ref bi, .int (iZ Li), .int (iZ hdi), .int (iZ hni), .int (iZ ovi), .int (iZ tsi), .int (iZ tbi)])), (bi, .inl (cB, 6000, .inl (zA fi))), (qc, .inl (cI, 256, .inl (zA x3)))] H → va_D A [(g, .inr (3, [.ref qc, .ref qp, .ref qi, .ref qs, .ref qr, .ref qo, .ref qx, .int (iZ ps)])), (qi, .inr (0, [.ref bi, .int (iZ Li), .int (iZ hdi), .int (iZ hni), .int (iZ ovi), .int (iZ tsi), .int (iZ tbi)])), (bi, .inl (cB, 6000, .inl (zA fi))), (qc, .inl (cI, 256, .inl (zA x3)))] → va_S A s.heap H locs → ∀ ls : Array Slot, lv_has ls 2 [(0, .ref g), (1, .int (iZ (ps + (n : Int))))] → W p l e rm_SC_countAll s m args below meth c H locs 0 0 Q (F0 m 13 ls []) := by
    intro nF
    induction nF with
    | zero => intro n x3 hm; exact absurd hm (Nat.not_lt_zero _)
    | succ nF ih13 =>
      intro n x3 hm hn h3 H locs jP jD jS ls jl
      refine lv_iload_n jx jb d_SC_countAll_13 rfl (lv_at jl 1 rfl) ?_
      refine lv_aload_n jx jb d_SC_countAll_14 rfl (lv_at jl 0 rfl) ?_
      refine va_get (D := D) (ci := 3) (v := .ref qi) (C := R_SC) (T := F_SC) (N := 8) jx jb jts i_SC jown jK.1 jP 0 rfl rfl 2 (by decide) (jts _ fl_SC_19) (fun _ h9 => h9) rfl d_SC_countAll_15 ?_
      refine z_backe (va_runV (As := []) (rest := [.int (iZ (ps + (n : Int)))]) ⟨jx, jb, jml, jown, jts⟩ (c_Row_length l D cI cB cZ qi bi Li hdi hni ovi tsi tbi) (zc_V 0 jts cd_Row_length lk_SC_43 im_Row_length se_Row_length in_Row hd_Row_length ⟨Nat.le_of_ble_eq_true rfl, Nat.le_of_ble_eq_true rfl⟩ rfl rfl) (z_preVR jK jP [1] rfl rfl rfl) rfl rfl jl.1 rfl (lv_room (Nat.le_of_ble_eq_true rfl)) d_SC_countAll_18 ⟨Nat.le_of_ble_eq_true rfl, Nat.le_of_ble_eq_true rfl⟩) ?_
      refine z_icmp_ge (tgt := 47) jx jb d_SC_countAll_21 (by decide) ⟨⟨by omega, by omega⟩, ⟨by omega, by omega⟩⟩ (fun hc21 => ?_) (fun hc21 => ?_)
      ·
        refine lv_aload_n jx jb d_SC_countAll_47 rfl (lv_at jl 0 rfl) ?_
        refine va_get (D := D) (ci := 3) (v := .ref qi) (C := R_SC) (T := F_SC) (N := 8) jx jb jts i_SC jown jK.1 jP 0 rfl rfl 2 (by decide) (jts _ fl_SC_19) (fun _ h9 => h9) rfl d_SC_countAll_48 ?_
        refine z_backe (va_runV (As := []) (rest := []) ⟨jx, jb, jml, jown, jts⟩ (c_Row_length l D cI cB cZ qi bi Li hdi hni ovi tsi tbi) (zc_V 0 jts cd_Row_length lk_SC_43 im_Row_length se_Row_length in_Row hd_Row_length ⟨Nat.le_of_ble_eq_true rfl, Nat.le_of_ble_eq_true rfl⟩ rfl rfl) (z_preVR jK jP [1] rfl rfl rfl) rfl rfl jl.1 rfl (lv_room (Nat.le_of_ble_eq_true rfl)) d_SC_countAll_51 ⟨Nat.le_of_ble_eq_true rfl, Nat.le_of_ble_eq_true rfl⟩) ?_
        refine lv_aload_n jx jb d_SC_countAll_54 rfl (lv_at jl 0 rfl) ?_
        refine va_get (D := D) (ci := 3) (v := .int (iZ ps)) (C := R_SC) (T := F_SC) (N := 8) jx jb jts i_SC jown jK.1 jP 0 rfl rfl 7 (by decide) (jts _ fl_SC_55) (fun _ h9 => h9) rfl d_SC_countAll_55 ?_
        refine z_isub jx jb d_SC_countAll_58 ?_
        exact jret _ _ _ (x3) _ _ (Or.inl rfl) (⟨rfl, fun k h => by rw [show (Li - ps).toNat = n by omega]; exact h3 k h⟩) (jP.sub [0, 1, 2, 3] rfl) (jD.sub [0, 1, 2, 3] (by decide) rfl) jS d_SC_countAll_59
      ·
        refine lv_aload_n jx jb d_SC_countAll_24 rfl (lv_at jl 0 rfl) ?_
        refine va_get (D := D) (ci := 3) (v := .ref qc) (C := R_SC) (T := F_SC) (N := 8) jx jb jts i_SC jown jK.1 jP 0 rfl rfl 0 (by decide) (jts _ fl_SC_9) (fun _ h9 => h9) rfl d_SC_countAll_25 ?_
        refine lv_aload_n jx jb d_SC_countAll_28 rfl (lv_at jl 0 rfl) ?_
        refine va_get (D := D) (ci := 3) (v := .ref qi) (C := R_SC) (T := F_SC) (N := 8) jx jb jts i_SC jown jK.1 jP 0 rfl rfl 2 (by decide) (jts _ fl_SC_19) (fun _ h9 => h9) rfl d_SC_countAll_29 ?_
        refine lv_iload_n jx jb d_SC_countAll_32 rfl (lv_at jl 1 rfl) ?_
        refine z_backe (va_runV (As := [.int (iZ (ps + (n : Int)))]) (rest := [.ref qc]) ⟨jx, jb, jml, jown, jts⟩ (c_Row_byteOrZero l D cI cB cZ qi bi Li hdi hni ovi tsi tbi fi (ps + (n : Int)) (by first | assumption | omega) (by first | assumption | omega)) (zc_V 1 jts cd_Row_byteOrZero lk_SC_73 im_Row_byteOrZero se_Row_byteOrZero in_Row hd_Row_byteOrZero ⟨Nat.le_of_ble_eq_true rfl, Nat.le_of_ble_eq_true rfl⟩ rfl rfl) (z_preVR jK jP [1, 2] rfl rfl rfl) rfl rfl jl.1 rfl (lv_room (Nat.le_of_ble_eq_true rfl)) d_SC_countAll_33 ⟨Nat.le_of_ble_eq_true rfl, Nat.le_of_ble_eq_true rfl⟩) ?_
        refine z_top (fi (ps.toNat + n) % 256) (rb8_in (by omega) (by omega)) ?_
        refine lv_dup2_11 jx jb d_SC_countAll_36 rfl rfl ?_
        refine z_iald jx jb jK.1 jP 3 0 rfl rfl ((fi (ps.toNat + n) % 256).toNat) (by omega) d_SC_countAll_37 ?_
        refine lv_iconst (v := iZ 1) jx jb d_SC_countAll_38 rfl ?_
        refine z_iadd jx jb d_SC_countAll_39 ?_
        refine z_iast jx jb jK.1 jP jD jS 3 0 rfl rfl ((fi (ps.toNat + n) % 256).toNat) (by omega) d_SC_countAll_40 (fun H locs jP jD jS => ?_)
        have jP : va_P D classes [(g, .inr (3, [.ref qc, .ref qp, .ref qi, .ref qs, .ref qr, .ref qo, .ref qx, .int (iZ ps)])), (qi, .inr (0, [.ref bi, .int (iZ Li), .int (iZ hdi), .int (iZ hni), .int (iZ ovi), .int (iZ tsi), .int (iZ tbi)])), (bi, .inl (cB, 6000, .inl (zA fi))), (qc, .inl (cI, 256, .inl (zA (zu x3 ((fi (ps.toNat + n) % 256).toNat) ((x3 ((fi (ps.toNat + n) % 256).toNat)) + 1)))))] H := jP
        have jD : va_D A [(g, .inr (3, [.ref qc, .ref qp, .ref qi, .ref qs, .ref qr, .ref qo, .ref qx, .int (iZ ps)])), (qi, .inr (0, [.ref bi, .int (iZ Li), .int (iZ hdi), .int (iZ hni), .int (iZ ovi), .int (iZ tsi), .int (iZ tbi)])), (bi, .inl (cB, 6000, .inl (zA fi))), (qc, .inl (cI, 256, .inl (zA (zu x3 ((fi (ps.toNat + n) % 256).toNat) ((x3 ((fi (ps.toNat + n) % 256).toNat)) + 1)))))] := jD
        refine lv_iinc (v := iZ (ps + ((n + 1 : Nat) : Int))) (lv' := [(1, .int (iZ (ps + ((n + 1 : Nat) : Int)))), (0, .ref g)]) jx jb d_SC_countAll_41 jl (k := 1) rfl (by rw [show (ps + ((n + 1 : Nat) : Int)) = (ps + (n : Int)) + 1 from by omega]; exact iZ_add _ _) (by decide) rfl (fun ls jl => ?_)
        refine lv_goto (tgt := 13) jx jb d_SC_countAll_44 (by decide) ?_
        exact ih13 (n + 1) (zu x3 ((fi (ps.toNat + n) % 256).toNat) ((x3 ((fi (ps.toNat + n) % 256).toNat)) + 1)) (by omega) (by first | assumption | omega) (cnB_s (b := fun j => fi j % 256) h3 (by constructor <;> omega)) _ _ (jP.sub [0, 1, 2, 3] rfl) (jD.sub [0, 1, 2, 3] (by decide) rfl) jS _ (lv_sub jl [1, 0] rfl)
  exact hloop13 (((Li - ps).toNat - 0) + 1) 0 (fun k => if k < 256 then 0 else fc k) (Nat.lt_succ_self _) (by first | assumption | omega) (fun s hs => if_pos hs) _ _ (jP.sub [0, 1, 2, 3] rfl) (jD.sub [0, 1, 2, 3] (by decide) rfl) jS _ (lv_sub jl [1, 0] rfl)
abbrev rm_SW_putZeros : Room := { frames := 2, cells := 0, slots := 0, locals := 43 }
set_option maxHeartbeats 4000000 in
set_option maxRecDepth 100000 in
theorem c_SW_putZeros (l : Launch) (D : va_G) (cI cB cZ : ClassId) (sz : Nat) (qs : Nat) (pP : Nat) (pS : Nat) (pB : Nat) (pA : Nat) (pC : Nat) (pF : Nat) (pN : Nat) (o : Nat) (gP : Nat → Int) (h : Nat) (hb : Nat) (L : Int) (hd : Int) (hn : Int) (ov : Int) (ts : Int) (tb : Int) (f : Nat → Int) (V : Nat) (B : Nat) (a : Nat) (hI : rI V B (B / 8) L hd hn ov f) (hpr : ∀ k, k < 256 → -1 ≤ gP k ∧ gP k ≤ 65536) (ha : a ≤ 256) : Met l y_ShareWriter_putZeros (.code y_ShareWriter_putZeros b_ShareWriter_putZeros 5 (some .int) :: zT) rm_SW_putZeros (zPc D classes (TY cI cB cZ) [(qs, .inr (1, [.ref pP, .ref pS, .ref pB, .ref pA, .ref pC, .ref pF, .ref pN, .int (iZ (o : Int))])), (pP, .inl (cI, 256, .inl (zA gP))), (h, .inr (0, [.ref hb, .int (iZ L), .int (iZ hd), .int (iZ hn), .int (iZ ov), .int (iZ ts), .int (iZ tb)])), (hb, .inl (cB, 6000, .inl (zA f)))] sz [.ref qs, .int (iZ (a : Int)), .ref h]) (zFi (S := Nat × Int × Int × Int × Int × (Nat → Int)) D classes (fun z u => z = (u.1 : Int) ∧ (a ≤ u.1 ∧ u.1 ≤ 256 ∧ (∀ k, a ≤ k → k < u.1 → gP k = 0) ∧ (u.1 = 256 ∨ gP u.1 ≠ 0)) ∧ rI (V + zX (u.1 - a) * 2 ^ B) (B + zN (u.1 - a)) ((B + zN (u.1 - a)) / 8) u.2.1 u.2.2.1 u.2.2.2.1 u.2.2.2.2.1 u.2.2.2.2.2) (fun u => [(qs, .inr (1, [.ref pP, .ref pS, .ref pB, .ref pA, .ref pC, .ref pF, .ref pN, .int (iZ (o : Int))])), (pP, .inl (cI, 256, .inl (zA gP))), (h, .inr (0, [.ref hb, .int (iZ u.2.1), .int (iZ u.2.2.1), .int (iZ u.2.2.2.1), .int (iZ u.2.2.2.2.1), .int (iZ ts), .int (iZ tb)])), (hb, .inl (cB, 6000, .inl (zA u.2.2.2.2.2)))]) (va_A [(qs, .inr (1, [.ref pP, .ref pS, .ref pB, .ref pA, .ref pC, .ref pF, .ref pN, .int (iZ (o : Int))])), (pP, .inl (cI, 256, .inl (zA gP))), (h, .inr (0, [.ref hb, .int (iZ L), .int (iZ hd), .int (iZ hn), .int (iZ ov), .int (iZ ts), .int (iZ tb)])), (hb, .inl (cB, 6000, .inl (zA f)))] sz)) 0 0 (va_A [(qs, .inr (1, [.ref pP, .ref pS, .ref pB, .ref pA, .ref pC, .ref pF, .ref pN, .int (iZ (o : Int))])), (pP, .inl (cI, 256, .inl (zA gP))), (h, .inr (0, [.ref hb, .int (iZ L), .int (iZ hd), .int (iZ hn), .int (iZ ov), .int (iZ ts), .int (iZ tb)])), (hb, .inl (cB, 6000, .inl (zA f)))] sz) := by
  refine z_ofi (by decide) (Nat.le_of_ble_eq_true rfl) (Or.inl rfl) ?_
  intro p e s m args below meth c A Q E jA jK jret H locs jP jD jS ls jl
  obtain ⟨jx, jb, jrt, jml, jown, jts, jlk⟩ := E
  have jown : s.vm.findClass R_ShareWriter = some m.cls := jown
  have jl : lv_has ls 5 [(0, .ref qs), (1, .int (iZ (a : Int))), (2, .ref h)] := jl
  have hjoin23 : ∀ (b : Nat), (a ≤ b ∧ b ≤ 256 ∧ (∀ k, a ≤ k → k < b → gP k = 0) ∧ (b = 256 ∨ gP b ≠ 0)) → ∀ (H : Heap) (locs : List Loc), va_P D classes [(qs, .inr (1, [.ref pP, .ref pS, .ref pB, .ref pA, .ref pC, .ref pF, .ref pN, .int (iZ (o : Int))])), (pP, .inl (cI, 256, .inl (zA gP))), (h, .inr (0, [.ref hb, .int (iZ L), .int (iZ hd), .int (iZ hn), .int (iZ ov), .int (iZ ts), .int (iZ tb)])), (hb, .inl (cB, 6000, .inl (zA f)))] H → va_D A [(qs, .inr (1, [.ref pP, .ref pS, .ref pB, .ref pA, .ref pC, .ref pF, .ref pN, .int (iZ (o : Int))])), (pP, .inl (cI, 256, .inl (zA gP))), (h, .inr (0, [.ref hb, .int (iZ L), .int (iZ hd), .int (iZ hn), .int (iZ ov), .int (iZ ts), .int (iZ tb)])), (hb, .inl (cB, 6000, .inl (zA f)))] → va_S A s.heap H locs → ∀ ls : Array Slot, lv_has ls 5 [(0, .ref qs), (1, .int (iZ (a : Int))), (2, .ref h), (3, .int (iZ (b : Int)))] → W p l e rm_SW_putZeros s m args below meth c H locs 0 0 Q (F0 m 23 ls []) := by
    intro b hbb H locs jP jD jS ls jl
    refine lv_iload_n jx jb d_ShareWriter_putZeros_23 rfl (lv_at jl 3 rfl) ?_
    refine lv_iload_n jx jb d_ShareWriter_putZeros_24 rfl (lv_at jl 1 rfl) ?_
    refine z_isub jx jb d_ShareWriter_putZeros_25 ?_
    refine z_top ((b - a - 3 * 0 : Nat) : Int) (by omega) ?_
    refine lv_istore (lv' := [(4, .int (iZ ((b - a - 3 * 0 : Nat) : Int))), (0, .ref qs), (1, .int (iZ (a : Int))), (2, .ref h), (3, .int (iZ (b : Int)))]) jx jb d_ShareWriter_putZeros_26 jl (by decide) rfl (fun ls jl => ?_)
    have hloop28 : ∀ (nF : Nat) (i : Nat) (L2 : Int) (hd2 : Int) (hn2 : Int) (ov2 : Int) (f2 : Nat → Int), b - a - 3 * i < nF → (3 * i ≤ b - a) → (rI (V + (4 ^ i - 1) * 2 ^ B) (B + 2 * i) ((B + 2 * i) / 8) L2 hd2 hn2 ov2 f2) → ∀ (H : Heap) (locs : List Loc), va_P D classes [(qs, .inr (1, [.ref pP, .ref pS, .ref pB, .ref pA, .ref pC, .ref pF, .ref pN, .int (iZ (o : Int))])), (pP, .inl (cI, 256, .inl (zA gP))), (h, .inr (0, [.ref hb, .int (iZ L2), .int (iZ hd2), .int (iZ hn2), .int (iZ ov2), .int (iZ ts), .int (iZ tb)])), (hb, .inl (cB, 6000, .inl (zA f2)))] H → va_D A [(qs, .inr (1, [.ref pP, .ref pS, .ref pB, .ref pA, .ref pC, .ref pF, .ref pN, .int (iZ (o : Int))])), (pP, .inl (cI, 256, .inl (zA gP))), (h, .inr (0, [.ref hb, .int (iZ L2), .int (iZ hd2), .int (iZ hn2), .int (iZ ov2), .int (iZ ts), .int (iZ tb)])), (hb, .inl (cB, 6000, .inl (zA f2)))] → va_S A s.heap H locs → ∀ ls : Array Slot, lv_has ls 5 [(0, .ref qs), (2, .ref h), (3, .int (iZ (b : Int))), (4, .int (iZ ((b - a - 3 * i : Nat) : Int)))] → W p l e rm_SW_putZeros s m args below meth c H locs 0 0 Q (F0 m 28 ls []) := by
      intro nF
      induction nF with
      | zero => intro i L2 hd2 hn2 ov2 f2 hm; exact absurd hm (Nat.not_lt_zero _)
      | succ nF ih28 =>
        intro i L2 hd2 hn2 ov2 f2 hm hi h2 H locs jP jD jS ls jl
        refine lv_iload jx jb d_ShareWriter_putZeros_28 (lv_at jl 3 rfl) ?_
        refine lv_iconst (v := iZ 3) jx jb d_ShareWriter_putZeros_30 rfl ?_
        refine z_icmp_lt (tgt := 46) jx jb d_ShareWriter_putZeros_31 (by decide) ⟨⟨by omega, by omega⟩, ⟨by decide, by decide⟩⟩ (fun hc31 => ?_) (fun hc31 => ?_)
        ·
          refine lv_aload_n jx jb d_ShareWriter_putZeros_46 rfl (lv_at jl 1 rfl) ?_
          refine lv_iload jx jb d_ShareWriter_putZeros_47 (lv_at jl 3 rfl) ?_
          refine lv_iconst (v := iZ 2) jx jb d_ShareWriter_putZeros_49 rfl ?_
          refine z_backv (wr := [(qs, .inr (1, [.ref pP, .ref pS, .ref pB, .ref pA, .ref pC, .ref pF, .ref pN, .int (iZ (o : Int))])), (pP, .inl (cI, 256, .inl (zA gP)))]) jP jD jS jA [2, 3] [0, 1] rfl rfl (by decide) (by decide) (va_runV (As := [.int (iZ ((b - a - 3 * i : Nat) : Int)), .int (iZ 2)]) (rest := []) ⟨jx, jb, jml, jown, jts⟩ (c_Row_putBits l D cI cB cZ H.size h hb L2 hd2 hn2 ov2 ts tb f2 (b - a - 3 * i : Nat) 2 (V + (4 ^ i - 1) * 2 ^ B) (B + 2 * i) (h2) (by omega) (by decide)) (zc_V 2 jts cd_Row_putBits lk_ShareWriter_20 im_Row_putBits se_Row_putBits in_Row hd_Row_putBits ⟨Nat.le_of_ble_eq_true rfl, Nat.le_of_ble_eq_true rfl⟩ rfl rfl) (z_preV jK jP jD [2, 3] (by decide) rfl rfl rfl rfl) rfl rfl jl.1 rfl (lv_room (Nat.le_of_ble_eq_true rfl)) d_ShareWriter_putZeros_50 ⟨Nat.le_of_ble_eq_true rfl, Nat.le_of_ble_eq_true rfl⟩) (fun u50 H locs hu50 jP jD jS => ?_)
          obtain ⟨L1_50, hd1_50, hn1_50, ov1_50, f1_50⟩ := u50
          have jP : va_P D classes [(qs, .inr (1, [.ref pP, .ref pS, .ref pB, .ref pA, .ref pC, .ref pF, .ref pN, .int (iZ (o : Int))])), (pP, .inl (cI, 256, .inl (zA gP))), (h, .inr (0, [.ref hb, .int (iZ L1_50), .int (iZ hd1_50), .int (iZ hn1_50), .int (iZ ov1_50), .int (iZ ts), .int (iZ tb)])), (hb, .inl (cB, 6000, .inl (zA f1_50)))] H := jP.sub [0, 1, 2, 3] rfl
          have jD : va_D A [(qs, .inr (1, [.ref pP, .ref pS, .ref pB, .ref pA, .ref pC, .ref pF, .ref pN, .int (iZ (o : Int))])), (pP, .inl (cI, 256, .inl (zA gP))), (h, .inr (0, [.ref hb, .int (iZ L1_50), .int (iZ hd1_50), .int (iZ hn1_50), .int (iZ ov1_50), .int (iZ ts), .int (iZ tb)])), (hb, .inl (cB, 6000, .inl (zA f1_50)))] := jD.sub [0, 1, 2, 3] (by decide) rfl
          refine lv_iload_n jx jb d_ShareWriter_putZeros_53 rfl (lv_at jl 2 rfl) ?_
          exact jret _ _ _ (b, L1_50, hd1_50, hn1_50, ov1_50, f1_50) _ _ (Or.inl rfl) (⟨rfl, hbb, rI_ze (i := i) (by omega) hu50⟩) (jP.sub [0, 1, 2, 3] rfl) (jD.sub [0, 1, 2, 3] (by decide) rfl) jS d_ShareWriter_putZeros_54
        ·
          refine lv_aload_n jx jb d_ShareWriter_putZeros_34 rfl (lv_at jl 1 rfl) ?_
          refine lv_iconst (v := iZ 3) jx jb d_ShareWriter_putZeros_35 rfl ?_
          refine lv_iconst (v := iZ 2) jx jb d_ShareWriter_putZeros_36 rfl ?_
          refine z_backv (wr := [(qs, .inr (1, [.ref pP, .ref pS, .ref pB, .ref pA, .ref pC, .ref pF, .ref pN, .int (iZ (o : Int))])), (pP, .inl (cI, 256, .inl (zA gP)))]) jP jD jS jA [2, 3] [0, 1] rfl rfl (by decide) (by decide) (va_runV (As := [.int (iZ 3), .int (iZ 2)]) (rest := []) ⟨jx, jb, jml, jown, jts⟩ (c_Row_putBits l D cI cB cZ H.size h hb L2 hd2 hn2 ov2 ts tb f2 3 2 (V + (4 ^ i - 1) * 2 ^ B) (B + 2 * i) (h2) (by decide) (by decide)) (zc_V 2 jts cd_Row_putBits lk_ShareWriter_20 im_Row_putBits se_Row_putBits in_Row hd_Row_putBits ⟨Nat.le_of_ble_eq_true rfl, Nat.le_of_ble_eq_true rfl⟩ rfl rfl) (z_preV jK jP jD [2, 3] (by decide) rfl rfl rfl rfl) rfl rfl jl.1 rfl (lv_room (Nat.le_of_ble_eq_true rfl)) d_ShareWriter_putZeros_37 ⟨Nat.le_of_ble_eq_true rfl, Nat.le_of_ble_eq_true rfl⟩) (fun u37 H locs hu37 jP jD jS => ?_)
          obtain ⟨L1_37, hd1_37, hn1_37, ov1_37, f1_37⟩ := u37
          have jP : va_P D classes [(qs, .inr (1, [.ref pP, .ref pS, .ref pB, .ref pA, .ref pC, .ref pF, .ref pN, .int (iZ (o : Int))])), (pP, .inl (cI, 256, .inl (zA gP))), (h, .inr (0, [.ref hb, .int (iZ L1_37), .int (iZ hd1_37), .int (iZ hn1_37), .int (iZ ov1_37), .int (iZ ts), .int (iZ tb)])), (hb, .inl (cB, 6000, .inl (zA f1_37)))] H := jP.sub [0, 1, 2, 3] rfl
          have jD : va_D A [(qs, .inr (1, [.ref pP, .ref pS, .ref pB, .ref pA, .ref pC, .ref pF, .ref pN, .int (iZ (o : Int))])), (pP, .inl (cI, 256, .inl (zA gP))), (h, .inr (0, [.ref hb, .int (iZ L1_37), .int (iZ hd1_37), .int (iZ hn1_37), .int (iZ ov1_37), .int (iZ ts), .int (iZ tb)])), (hb, .inl (cB, 6000, .inl (zA f1_37)))] := jD.sub [0, 1, 2, 3] (by decide) rfl
          refine lv_iinc (v := iZ ((b - a - 3 * (i + 1) : Nat) : Int)) (lv' := [(4, .int (iZ ((b - a - 3 * (i + 1) : Nat) : Int))), (0, .ref qs), (2, .ref h), (3, .int (iZ (b : Int)))]) jx jb d_ShareWriter_putZeros_40 jl (k := 3) rfl (by rw [show ((b - a - 3 * (i + 1) : Nat) : Int) = ((b - a - 3 * i : Nat) : Int) + (-3) from by omega]; exact iZ_add _ _) (by decide) rfl (fun ls jl => ?_)
          refine lv_goto (tgt := 28) jx jb d_ShareWriter_putZeros_43 (by decide) ?_
          exact ih28 (i + 1) L1_37 hd1_37 hn1_37 ov1_37 f1_37 (by omega) (by first | assumption | omega) (rI_z hu37) _ _ (jP.sub [0, 1, 2, 3] rfl) (jD.sub [0, 1, 2, 3] (by decide) rfl) jS _ (lv_sub jl [1, 2, 3, 0] rfl)
    exact hloop28 ((b - a - 3 * 0) + 1) 0 L hd hn ov f (Nat.lt_succ_self _) (by first | assumption | omega) (rI_z0 hI) _ _ (jP.sub [0, 1, 2, 3] rfl) (jD.sub [0, 1, 2, 3] (by decide) rfl) jS _ (lv_sub jl [1, 3, 4, 0] rfl)
  refine lv_iload_n jx jb d_ShareWriter_putZeros_0 rfl (lv_at jl 1 rfl) ?_
  refine lv_istore_n (lv' := [(3, .int (iZ (a : Int))), (0, .ref qs), (1, .int (iZ (a : Int))), (2, .ref h)]) jx jb d_ShareWriter_putZeros_1 rfl jl (by decide) rfl (fun ls jl => ?_)
  have hloop2 : ∀ (nF : Nat) (b : Nat), 256 - b < nF → (a ≤ b ∧ b ≤ 256) → (∀ k, a ≤ k → k < b → gP k = 0) → ∀ (H : Heap) (locs : List Loc), va_P D classes [(qs, .inr (1, [.ref pP, .ref pS, .ref pB, .ref pA, .ref pC, .ref pF, .ref pN, .int (iZ (o : Int))])), (pP, .inl (cI, 256, .inl (zA gP))), (h, .inr (0, [.ref hb, .int (iZ L), .int (iZ hd), .int (iZ hn), .int (iZ ov), .int (iZ ts), .int (iZ tb)])), (hb, .inl (cB, 6000, .inl (zA f)))] H → va_D A [(qs, .inr (1, [.ref pP, .ref pS, .ref pB, .ref pA, .ref pC, .ref pF, .ref pN, .int (iZ (o : Int))])), (pP, .inl (cI, 256, .inl (zA gP))), (h, .inr (0, [.ref hb, .int (iZ L), .int (iZ hd), .int (iZ hn), .int (iZ ov), .int (iZ ts), .int (iZ tb)])), (hb, .inl (cB, 6000, .inl (zA f)))] → va_S A s.heap H locs → ∀ ls : Array Slot, lv_has ls 5 [(0, .ref qs), (1, .int (iZ (a : Int))), (2, .ref h), (3, .int (iZ (b : Int)))] → W p l e rm_SW_putZeros s m args below meth c H locs 0 0 Q (F0 m 2 ls []) := by
    intro nF
    induction nF with
    | zero => intro b hm; exact absurd hm (Nat.not_lt_zero _)
    | succ nF ih2 =>
      intro b hm hbb hz0 H locs jP jD jS ls jl
      refine lv_iload_n jx jb d_ShareWriter_putZeros_2 rfl (lv_at jl 3 rfl) ?_
      refine lv_sipush (v := iZ 256) jx jb d_ShareWriter_putZeros_3 (by decide) ?_
      refine z_icmp_ge (tgt := 23) jx jb d_ShareWriter_putZeros_6 (by decide) ⟨⟨by omega, by omega⟩, ⟨by decide, by decide⟩⟩ (fun hc6 => ?_) (fun hc6 => ?_)
      ·
        exact hjoin23 b (⟨hbb.1, hbb.2, hz0, by omega⟩) _ _ (jP.sub [0, 1, 2, 3] rfl) (jD.sub [0, 1, 2, 3] (by decide) rfl) jS _ (lv_sub jl [0, 1, 2, 3] rfl)
      ·
        refine lv_aload_n jx jb d_ShareWriter_putZeros_9 rfl (lv_at jl 0 rfl) ?_
        refine lv_iload_n jx jb d_ShareWriter_putZeros_10 rfl (lv_at jl 3 rfl) ?_
        refine z_backe (va_runV (As := [.int (iZ (b : Int))]) (rest := []) ⟨jx, jb, jml, jown, jts⟩ (c_Share_pointsOf l D cI cB cZ qs pP pS pB pA pC pF pN o gP (b : Int) (by first | assumption | omega)) (zc_V 1 jts cd_Share_pointsOf lk_ShareWriter_27 im_Share_pointsOf se_Share_pointsOf in_Share hd_Share_pointsOf ⟨Nat.le_of_ble_eq_true rfl, Nat.le_of_ble_eq_true rfl⟩ rfl rfl) (z_preVR jK jP [0, 1] rfl rfl rfl) rfl rfl jl.1 rfl (lv_room (Nat.le_of_ble_eq_true rfl)) d_ShareWriter_putZeros_11 ⟨Nat.le_of_ble_eq_true rfl, Nat.le_of_ble_eq_true rfl⟩) ?_
        refine z_top (gP b) (rfl) ?_
        have hpb := hpr b (by omega)
        refine z_if_ne (tgt := 23) jx jb d_ShareWriter_putZeros_14 (by decide) ⟨by omega, by omega⟩ (fun hc14 => ?_) (fun hc14 => ?_)
        ·
          exact hjoin23 b (⟨hbb.1, hbb.2, hz0, by omega⟩) _ _ (jP.sub [0, 1, 2, 3] rfl) (jD.sub [0, 1, 2, 3] (by decide) rfl) jS _ (lv_sub jl [0, 1, 2, 3] rfl)
        ·
          refine lv_iinc (v := iZ ((b : Int) + 1)) (lv' := [(3, .int (iZ ((b : Int) + 1))), (0, .ref qs), (1, .int (iZ (a : Int))), (2, .ref h)]) jx jb d_ShareWriter_putZeros_17 jl (k := 3) rfl (iZ_add _ _) (by decide) rfl (fun ls jl => ?_)
          refine lv_goto (tgt := 2) jx jb d_ShareWriter_putZeros_20 (by decide) ?_
          exact ih2 (b + 1) (by omega) (by first | assumption | omega) (zr_step hz0 hc14) _ _ (jP.sub [0, 1, 2, 3] rfl) (jD.sub [0, 1, 2, 3] (by decide) rfl) jS _ (lv_sub jl [1, 2, 3, 0] rfl)
  exact hloop2 ((256 - a) + 1) a (Nat.lt_succ_self _) (by first | assumption | omega) (fun k q1 q2 => absurd q1 (by omega)) _ _ (jP.sub [0, 1, 2, 3] rfl) (jD.sub [0, 1, 2, 3] (by decide) rfl) jS _ (lv_sub jl [1, 2, 3, 0] rfl)
abbrev rm_SW_putShare : Room := { frames := 5, cells := 0, slots := 0, locals := 104 }
set_option maxHeartbeats 4000000 in
set_option maxRecDepth 100000 in
theorem c_SW_putShare (l : Launch) (D : va_G) (cI cB cZ : ClassId) (sz : Nat) (qs : Nat) (pP : Nat) (pS : Nat) (pB : Nat) (pA : Nat) (pC : Nat) (pF : Nat) (pN : Nat) (o : Nat) (gP : Nat → Int) (h : Nat) (hb : Nat) (L : Int) (hd : Int) (hn : Int) (ov : Int) (ts : Int) (tb : Int) (f : Nat → Int) (hpr : ∀ k, k < 256 → -1 ≤ gP k ∧ gP k ≤ 65536) (ho : 5 ≤ o ∧ o ≤ 12) (hsum : cum gP 256 = 2 ^ o) (hfr : ∀ k, -128 ≤ f k ∧ f k < 128) : Met l y_ShareWriter_putShare (.code y_ShareWriter_putShare b_ShareWriter_putShare 5 none :: zT) rm_SW_putShare (zPc D classes (TY cI cB cZ) [(qs, .inr (1, [.ref pP, .ref pS, .ref pB, .ref pA, .ref pC, .ref pF, .ref pN, .int (iZ (o : Int))])), (pP, .inl (cI, 256, .inl (zA gP))), (h, .inr (0, [.ref hb, .int (iZ L), .int (iZ hd), .int (iZ hn), .int (iZ ov), .int (iZ ts), .int (iZ tb)])), (hb, .inl (cB, 6000, .inl (zA f)))] sz [.ref qs, .ref h]) (zFv (S := Int × Int × Int × Int × (Nat → Int)) D classes (fun u => rI (dC gP o).1 (8 * (((dC gP o).2 + 7) / 8)) (((dC gP o).2 + 7) / 8) u.1 u.2.1 u.2.2.1 u.2.2.2.1 u.2.2.2.2) (fun u => [(qs, .inr (1, [.ref pP, .ref pS, .ref pB, .ref pA, .ref pC, .ref pF, .ref pN, .int (iZ (o : Int))])), (pP, .inl (cI, 256, .inl (zA gP))), (h, .inr (0, [.ref hb, .int (iZ u.1), .int (iZ u.2.1), .int (iZ u.2.2.1), .int (iZ u.2.2.2.1), .int (iZ ts), .int (iZ tb)])), (hb, .inl (cB, 6000, .inl (zA u.2.2.2.2)))]) (va_A [(qs, .inr (1, [.ref pP, .ref pS, .ref pB, .ref pA, .ref pC, .ref pF, .ref pN, .int (iZ (o : Int))])), (pP, .inl (cI, 256, .inl (zA gP))), (h, .inr (0, [.ref hb, .int (iZ L), .int (iZ hd), .int (iZ hn), .int (iZ ov), .int (iZ ts), .int (iZ tb)])), (hb, .inl (cB, 6000, .inl (zA f)))] sz)) 0 0 (va_A [(qs, .inr (1, [.ref pP, .ref pS, .ref pB, .ref pA, .ref pC, .ref pF, .ref pN, .int (iZ (o : Int))])), (pP, .inl (cI, 256, .inl (zA gP))), (h, .inr (0, [.ref hb, .int (iZ L), .int (iZ hd), .int (iZ hn), .int (iZ ov), .int (iZ ts), .int (iZ tb)])), (hb, .inl (cB, 6000, .inl (zA f)))] sz) := by
  refine z_ofv (by decide) (Nat.le_of_ble_eq_true rfl) rfl ?_
  intro p e s m args below meth c A Q E jmn jA jK jret H locs jP jD jS ls jl
  obtain ⟨jx, jb, jrt, jml, jown, jts, jlk⟩ := E
  have jown : s.vm.findClass R_ShareWriter = some m.cls := jown
  have hp12 := p2_le ho.2
  have jl : lv_has ls 5 [(0, .ref qs), (1, .ref h)] := jl
  refine lv_aload_n jx jb d_ShareWriter_putShare_0 rfl (lv_at jl 1 rfl) ?_
  refine z_backv (wr := [(qs, .inr (1, [.ref pP, .ref pS, .ref pB, .ref pA, .ref pC, .ref pF, .ref pN, .int (iZ (o : Int))])), (pP, .inl (cI, 256, .inl (zA gP))), (hb, .inl (cB, 6000, .inl (zA f)))]) jP jD jS jA [2] [0, 1, 3] rfl rfl (by decide) (by decide) (va_runV (As := []) (rest := []) ⟨jx, jb, jml, jown, jts⟩ (c_Row_empty l D cI cB cZ H.size h hb L hd hn ov ts tb) (zc_V 0 jts cd_Row_empty lk_ShareWriter_9 im_Row_empty se_Row_empty in_Row hd_Row_empty ⟨Nat.le_of_ble_eq_true rfl, Nat.le_of_ble_eq_true rfl⟩ rfl rfl) (z_preV jK jP jD [2] (by decide) rfl rfl rfl rfl) rfl rfl jl.1 rfl (lv_room (Nat.le_of_ble_eq_true rfl)) d_ShareWriter_putShare_1 ⟨Nat.le_of_ble_eq_true rfl, Nat.le_of_ble_eq_true rfl⟩) (fun u1 H locs hu1 jP jD jS => ?_)
  have jP : va_P D classes [(qs, .inr (1, [.ref pP, .ref pS, .ref pB, .ref pA, .ref pC, .ref pF, .ref pN, .int (iZ (o : Int))])), (pP, .inl (cI, 256, .inl (zA gP))), (h, .inr (0, [.ref hb, .int (iZ 0), .int (iZ 0), .int (iZ 0), .int (iZ 0), .int (iZ ts), .int (iZ tb)])), (hb, .inl (cB, 6000, .inl (zA f)))] H := jP.sub [0, 1, 3, 2] rfl
  have jD : va_D A [(qs, .inr (1, [.ref pP, .ref pS, .ref pB, .ref pA, .ref pC, .ref pF, .ref pN, .int (iZ (o : Int))])), (pP, .inl (cI, 256, .inl (zA gP))), (h, .inr (0, [.ref hb, .int (iZ 0), .int (iZ 0), .int (iZ 0), .int (iZ 0), .int (iZ ts), .int (iZ tb)])), (hb, .inl (cB, 6000, .inl (zA f)))] := jD.sub [0, 1, 3, 2] (by decide) rfl
  refine lv_aload_n jx jb d_ShareWriter_putShare_4 rfl (lv_at jl 1 rfl) ?_
  refine lv_aload_n jx jb d_ShareWriter_putShare_5 rfl (lv_at jl 0 rfl) ?_
  refine z_backe (va_runV (As := []) (rest := [.ref h]) ⟨jx, jb, jml, jown, jts⟩ (c_Share_order l D cI cB cZ qs pP pS pB pA pC pF pN o) (zc_V 0 jts cd_Share_order lk_ShareWriter_14 im_Share_order se_Share_order in_Share hd_Share_order ⟨Nat.le_of_ble_eq_true rfl, Nat.le_of_ble_eq_true rfl⟩ rfl rfl) (z_preVR jK jP [0] rfl rfl rfl) rfl rfl jl.1 rfl (lv_room (Nat.le_of_ble_eq_true rfl)) d_ShareWriter_putShare_6 ⟨Nat.le_of_ble_eq_true rfl, Nat.le_of_ble_eq_true rfl⟩) ?_
  refine lv_iconst (v := iZ 5) jx jb d_ShareWriter_putShare_9 rfl ?_
  refine z_isub jx jb d_ShareWriter_putShare_10 ?_
  refine z_top ((o - 5 : Nat) : Int) (by omega) ?_
  refine lv_iconst (v := iZ 4) jx jb d_ShareWriter_putShare_11 rfl ?_
  refine z_backv (wr := [(qs, .inr (1, [.ref pP, .ref pS, .ref pB, .ref pA, .ref pC, .ref pF, .ref pN, .int (iZ (o : Int))])), (pP, .inl (cI, 256, .inl (zA gP)))]) jP jD jS jA [2, 3] [0, 1] rfl rfl (by decide) (by decide) (va_runV (As := [.int (iZ ((o - 5 : Nat) : Int)), .int (iZ 4)]) (rest := []) ⟨jx, jb, jml, jown, jts⟩ (c_Row_putBits l D cI cB cZ H.size h hb 0 0 0 0 ts tb f (o - 5 : Nat) 4 0 0 (rI_0 hfr) (by omega) (by decide)) (zc_V 2 jts cd_Row_putBits lk_ShareWriter_20 im_Row_putBits se_Row_putBits in_Row hd_Row_putBits ⟨Nat.le_of_ble_eq_true rfl, Nat.le_of_ble_eq_true rfl⟩ rfl rfl) (z_preV jK jP jD [2, 3] (by decide) rfl rfl rfl rfl) rfl rfl jl.1 rfl (lv_room (Nat.le_of_ble_eq_true rfl)) d_ShareWriter_putShare_12 ⟨Nat.le_of_ble_eq_true rfl, Nat.le_of_ble_eq_true rfl⟩) (fun u12 H locs hu12 jP jD jS => ?_)
  obtain ⟨L1_12, hd1_12, hn1_12, ov1_12, f1_12⟩ := u12
  have jP : va_P D classes [(qs, .inr (1, [.ref pP, .ref pS, .ref pB, .ref pA, .ref pC, .ref pF, .ref pN, .int (iZ (o : Int))])), (pP, .inl (cI, 256, .inl (zA gP))), (h, .inr (0, [.ref hb, .int (iZ L1_12), .int (iZ hd1_12), .int (iZ hn1_12), .int (iZ ov1_12), .int (iZ ts), .int (iZ tb)])), (hb, .inl (cB, 6000, .inl (zA f1_12)))] H := jP.sub [0, 1, 2, 3] rfl
  have jD : va_D A [(qs, .inr (1, [.ref pP, .ref pS, .ref pB, .ref pA, .ref pC, .ref pF, .ref pN, .int (iZ (o : Int))])), (pP, .inl (cI, 256, .inl (zA gP))), (h, .inr (0, [.ref hb, .int (iZ L1_12), .int (iZ hd1_12), .int (iZ hn1_12), .int (iZ ov1_12), .int (iZ ts), .int (iZ tb)])), (hb, .inl (cB, 6000, .inl (zA f1_12)))] := jD.sub [0, 1, 2, 3] (by decide) rfl
  refine lv_aload_n jx jb d_ShareWriter_putShare_15 rfl (lv_at jl 0 rfl) ?_
  refine z_backe (va_runV (As := []) (rest := []) ⟨jx, jb, jml, jown, jts⟩ (c_Share_cells l D cI cB cZ qs pP pS pB pA pC pF pN o (by first | assumption | omega)) (zc_V 0 jts cd_Share_cells lk_ShareWriter_24 im_Share_cells se_Share_cells in_Share hd_Share_cells ⟨Nat.le_of_ble_eq_true rfl, Nat.le_of_ble_eq_true rfl⟩ rfl rfl) (z_preVR jK jP [0] rfl rfl rfl) rfl rfl jl.1 rfl (lv_room (Nat.le_of_ble_eq_true rfl)) d_ShareWriter_putShare_16 ⟨Nat.le_of_ble_eq_true rfl, Nat.le_of_ble_eq_true rfl⟩) ?_
  refine lv_istore_n (lv' := [(2, .int (iZ (2 ^ o))), (0, .ref qs), (1, .ref h)]) jx jb d_ShareWriter_putShare_19 rfl jl (by decide) rfl (fun ls jl => ?_)
  refine lv_iconst (v := iZ 0) jx jb d_ShareWriter_putShare_20 rfl ?_
  refine lv_istore_n (lv' := [(3, .int (iZ 0)), (2, .int (iZ (2 ^ o))), (0, .ref qs), (1, .ref h)]) jx jb d_ShareWriter_putShare_21 rfl jl (by decide) rfl (fun ls jl => ?_)
  have hloop22 : ∀ (nF : Nat) (y : Nat) (R2 : Int) (V2 : Nat) (B2 : Nat) (L2 : Int) (hd2 : Int) (hn2 : Int) (ov2 : Int) (f2 : Nat → Int), 256 - y < nF → (y ≤ 256) → (R2 = 2 ^ o - cum gP y) → (rI V2 B2 (B2 / 8) L2 hd2 hn2 ov2 f2) → (shR gP (dC gP o) y R2 V2 B2) → ∀ (H : Heap) (locs : List Loc), va_P D classes [(qs, .inr (1, [.ref pP, .ref pS, .ref pB, .ref pA, .ref pC, .ref pF, .ref pN, .int (iZ (o : Int))])), (pP, .inl (cI, 256, .inl (zA gP))), (h, .inr (0, [.ref hb, .int (iZ L2), .int (iZ hd2), .int (iZ hn2), .int (iZ ov2), .int (iZ ts), .int (iZ tb)])), (hb, .inl (cB, 6000, .inl (zA f2)))] H → va_D A [(qs, .inr (1, [.ref pP, .ref pS, .ref pB, .ref pA, .ref pC, .ref pF, .ref pN, .int (iZ (o : Int))])), (pP, .inl (cI, 256, .inl (zA gP))), (h, .inr (0, [.ref hb, .int (iZ L2), .int (iZ hd2), .int (iZ hn2), .int (iZ ov2), .int (iZ ts), .int (iZ tb)])), (hb, .inl (cB, 6000, .inl (zA f2)))] → va_S A s.heap H locs → ∀ ls : Array Slot, lv_has ls 5 [(0, .ref qs), (1, .ref h), (2, .int (iZ R2)), (3, .int (iZ (y : Int)))] → W p l e rm_SW_putShare s m args below meth c H locs 0 0 Q (F0 m 22 ls []) := by
    intro nF
    induction nF with
    | zero => intro y R2 V2 B2 L2 hd2 hn2 ov2 f2 hm; exact absurd hm (Nat.not_lt_zero _)
    | succ nF ih22 =>
      intro y R2 V2 B2 L2 hd2 hn2 ov2 f2 hm hy hR2 h2 hC H locs jP jD jS ls jl
      have hcl := cum_lo hpr (b := y) hy
      have hcu := cum_mono hpr (a := y) (b := 256) hy (by omega)
      refine lv_iload_n jx jb d_ShareWriter_putShare_22 rfl (lv_at jl 2 rfl) ?_
      refine z_if_le (tgt := 75) jx jb d_ShareWriter_putShare_23 (by decide) ⟨by omega, by omega⟩ (fun hc23 => ?_) (fun hc23 => ?_)
      ·
        refine lv_aload_n jx jb d_ShareWriter_putShare_75 rfl (lv_at jl 1 rfl) ?_
        refine z_backv (wr := [(qs, .inr (1, [.ref pP, .ref pS, .ref pB, .ref pA, .ref pC, .ref pF, .ref pN, .int (iZ (o : Int))])), (pP, .inl (cI, 256, .inl (zA gP)))]) jP jD jS jA [2, 3] [0, 1] rfl rfl (by decide) (by decide) (va_runV (As := []) (rest := []) ⟨jx, jb, jml, jown, jts⟩ (c_Row_closeBits l D cI cB cZ H.size h hb L2 hd2 hn2 ov2 ts tb f2 V2 B2 (h2)) (zc_V 0 jts cd_Row_closeBits lk_ShareWriter_44 im_Row_closeBits se_Row_closeBits in_Row hd_Row_closeBits ⟨Nat.le_of_ble_eq_true rfl, Nat.le_of_ble_eq_true rfl⟩ rfl rfl) (z_preV jK jP jD [2, 3] (by decide) rfl rfl rfl rfl) rfl rfl jl.1 rfl (lv_room (Nat.le_of_ble_eq_true rfl)) d_ShareWriter_putShare_76 ⟨Nat.le_of_ble_eq_true rfl, Nat.le_of_ble_eq_true rfl⟩) (fun u76 H locs hu76 jP jD jS => ?_)
        obtain ⟨L1_76, hd1_76, hn1_76, ov1_76, f1_76⟩ := u76
        have jP : va_P D classes [(qs, .inr (1, [.ref pP, .ref pS, .ref pB, .ref pA, .ref pC, .ref pF, .ref pN, .int (iZ (o : Int))])), (pP, .inl (cI, 256, .inl (zA gP))), (h, .inr (0, [.ref hb, .int (iZ L1_76), .int (iZ hd1_76), .int (iZ hn1_76), .int (iZ ov1_76), .int (iZ ts), .int (iZ tb)])), (hb, .inl (cB, 6000, .inl (zA f1_76)))] H := jP.sub [0, 1, 2, 3] rfl
        have jD : va_D A [(qs, .inr (1, [.ref pP, .ref pS, .ref pB, .ref pA, .ref pC, .ref pF, .ref pN, .int (iZ (o : Int))])), (pP, .inl (cI, 256, .inl (zA gP))), (h, .inr (0, [.ref hb, .int (iZ L1_76), .int (iZ hd1_76), .int (iZ hn1_76), .int (iZ ov1_76), .int (iZ ts), .int (iZ tb)])), (hb, .inl (cB, 6000, .inl (zA f1_76)))] := jD.sub [0, 1, 2, 3] (by decide) rfl
        exact jret _ _ (L1_76, hd1_76, hn1_76, ov1_76, f1_76) _ _ (by rw [shR_e hC (by omega)]; exact hu76) (jP.sub [0, 1, 2, 3] rfl) (jD.sub [0, 1, 2, 3] (by decide) rfl) jS d_ShareWriter_putShare_79
      ·
        refine lv_iload_n jx jb d_ShareWriter_putShare_26 rfl (lv_at jl 3 rfl) ?_
        refine lv_sipush (v := iZ 256) jx jb d_ShareWriter_putShare_27 (by decide) ?_
        refine z_icmp_ge (tgt := 75) jx jb d_ShareWriter_putShare_30 (by decide) ⟨⟨by omega, by omega⟩, ⟨by decide, by decide⟩⟩ (fun hc30 => ?_) (fun hc30 => ?_)
        ·
          refine lv_aload_n jx jb d_ShareWriter_putShare_75 rfl (lv_at jl 1 rfl) ?_
          refine z_backv (wr := [(qs, .inr (1, [.ref pP, .ref pS, .ref pB, .ref pA, .ref pC, .ref pF, .ref pN, .int (iZ (o : Int))])), (pP, .inl (cI, 256, .inl (zA gP)))]) jP jD jS jA [2, 3] [0, 1] rfl rfl (by decide) (by decide) (va_runV (As := []) (rest := []) ⟨jx, jb, jml, jown, jts⟩ (c_Row_closeBits l D cI cB cZ H.size h hb L2 hd2 hn2 ov2 ts tb f2 V2 B2 (h2)) (zc_V 0 jts cd_Row_closeBits lk_ShareWriter_44 im_Row_closeBits se_Row_closeBits in_Row hd_Row_closeBits ⟨Nat.le_of_ble_eq_true rfl, Nat.le_of_ble_eq_true rfl⟩ rfl rfl) (z_preV jK jP jD [2, 3] (by decide) rfl rfl rfl rfl) rfl rfl jl.1 rfl (lv_room (Nat.le_of_ble_eq_true rfl)) d_ShareWriter_putShare_76 ⟨Nat.le_of_ble_eq_true rfl, Nat.le_of_ble_eq_true rfl⟩) (fun u76 H locs hu76 jP jD jS => ?_)
          obtain ⟨L1_76, hd1_76, hn1_76, ov1_76, f1_76⟩ := u76
          have jP : va_P D classes [(qs, .inr (1, [.ref pP, .ref pS, .ref pB, .ref pA, .ref pC, .ref pF, .ref pN, .int (iZ (o : Int))])), (pP, .inl (cI, 256, .inl (zA gP))), (h, .inr (0, [.ref hb, .int (iZ L1_76), .int (iZ hd1_76), .int (iZ hn1_76), .int (iZ ov1_76), .int (iZ ts), .int (iZ tb)])), (hb, .inl (cB, 6000, .inl (zA f1_76)))] H := jP.sub [0, 1, 2, 3] rfl
          have jD : va_D A [(qs, .inr (1, [.ref pP, .ref pS, .ref pB, .ref pA, .ref pC, .ref pF, .ref pN, .int (iZ (o : Int))])), (pP, .inl (cI, 256, .inl (zA gP))), (h, .inr (0, [.ref hb, .int (iZ L1_76), .int (iZ hd1_76), .int (iZ hn1_76), .int (iZ ov1_76), .int (iZ ts), .int (iZ tb)])), (hb, .inl (cB, 6000, .inl (zA f1_76)))] := jD.sub [0, 1, 2, 3] (by decide) rfl
          exact jret _ _ (L1_76, hd1_76, hn1_76, ov1_76, f1_76) _ _ (by rw [shR_e hC (by omega)]; exact hu76) (jP.sub [0, 1, 2, 3] rfl) (jD.sub [0, 1, 2, 3] (by decide) rfl) jS d_ShareWriter_putShare_79
        ·
          have hpy := hpr y (by omega)
          have hfit := cum_fit hpr (y := y) (by omega)
          have hwp := wgt_pt hpy.1 (show wgt (gP y) ≤ R2 by omega) (by omega)
          refine lv_aload_n jx jb d_ShareWriter_putShare_33 rfl (lv_at jl 0 rfl) ?_
          refine lv_iload_n jx jb d_ShareWriter_putShare_34 rfl (lv_at jl 3 rfl) ?_
          refine z_backe (va_runV (As := [.int (iZ (y : Int))]) (rest := []) ⟨jx, jb, jml, jown, jts⟩ (c_Share_pointsOf l D cI cB cZ qs pP pS pB pA pC pF pN o gP (y : Int) (by first | assumption | omega)) (zc_V 1 jts cd_Share_pointsOf lk_ShareWriter_27 im_Share_pointsOf se_Share_pointsOf in_Share hd_Share_pointsOf ⟨Nat.le_of_ble_eq_true rfl, Nat.le_of_ble_eq_true rfl⟩ rfl rfl) (z_preVR jK jP [0, 1] rfl rfl rfl) rfl rfl jl.1 rfl (lv_room (Nat.le_of_ble_eq_true rfl)) d_ShareWriter_putShare_35 ⟨Nat.le_of_ble_eq_true rfl, Nat.le_of_ble_eq_true rfl⟩) ?_
          refine z_top (gP y) (rfl) ?_
          refine lv_istore (lv' := [(4, .int (iZ (gP y))), (0, .ref qs), (1, .ref h), (2, .int (iZ R2)), (3, .int (iZ (y : Int)))]) jx jb d_ShareWriter_putShare_38 jl (by decide) rfl (fun ls jl => ?_)
          refine lv_iload jx jb d_ShareWriter_putShare_40 (lv_at jl 0 rfl) ?_
          refine lv_iconst (v := iZ 1) jx jb d_ShareWriter_putShare_42 rfl ?_
          refine z_iadd jx jb d_ShareWriter_putShare_43 ?_
          refine z_top ((gP y + 1).toNat : Int) (by omega) ?_
          refine lv_iload_n jx jb d_ShareWriter_putShare_44 rfl (lv_at jl 3 rfl) ?_
          refine lv_aload_n jx jb d_ShareWriter_putShare_45 rfl (lv_at jl 2 rfl) ?_
          refine z_backv (wr := [(qs, .inr (1, [.ref pP, .ref pS, .ref pB, .ref pA, .ref pC, .ref pF, .ref pN, .int (iZ (o : Int))])), (pP, .inl (cI, 256, .inl (zA gP)))]) jP jD jS jA [2, 3] [0, 1] rfl rfl (by decide) (by decide) (va_runS (As := [.int (iZ ((gP y + 1).toNat : Int)), .int (iZ R2), .ref h]) (rest := []) ⟨jx, jb, jml, jown, jts⟩ (c_SW_putNumber l D cI cB cZ H.size h hb L2 hd2 hn2 ov2 ts tb f2 V2 B2 ((gP y + 1).toNat) R2 (h2) (by omega) (by omega)) (zc_S 3 jts cd_ShareWriter_putNumber lk_ShareWriter_31 st_ShareWriter_putNumber in_ShareWriter hd_ShareWriter_putNumber ⟨Nat.le_of_ble_eq_true rfl, Nat.le_of_ble_eq_true rfl⟩ rfl rfl) (z_preS jK jP jD [2, 3] (by decide) rfl rfl) rfl rfl jl.1 rfl (lv_room (Nat.le_of_ble_eq_true rfl)) d_ShareWriter_putShare_46 ⟨Nat.le_of_ble_eq_true rfl, Nat.le_of_ble_eq_true rfl⟩) (fun u46 H locs hu46 jP jD jS => ?_)
          obtain ⟨L1_46, hd1_46, hn1_46, ov1_46, f1_46⟩ := u46
          have jP : va_P D classes [(qs, .inr (1, [.ref pP, .ref pS, .ref pB, .ref pA, .ref pC, .ref pF, .ref pN, .int (iZ (o : Int))])), (pP, .inl (cI, 256, .inl (zA gP))), (h, .inr (0, [.ref hb, .int (iZ L1_46), .int (iZ hd1_46), .int (iZ hn1_46), .int (iZ ov1_46), .int (iZ ts), .int (iZ tb)])), (hb, .inl (cB, 6000, .inl (zA f1_46)))] H := jP.sub [0, 1, 2, 3] rfl
          have jD : va_D A [(qs, .inr (1, [.ref pP, .ref pS, .ref pB, .ref pA, .ref pC, .ref pF, .ref pN, .int (iZ (o : Int))])), (pP, .inl (cI, 256, .inl (zA gP))), (h, .inr (0, [.ref hb, .int (iZ L1_46), .int (iZ hd1_46), .int (iZ hn1_46), .int (iZ ov1_46), .int (iZ ts), .int (iZ tb)])), (hb, .inl (cB, 6000, .inl (zA f1_46)))] := jD.sub [0, 1, 2, 3] (by decide) rfl
          refine lv_iload_n jx jb d_ShareWriter_putShare_49 rfl (lv_at jl 3 rfl) ?_
          refine lv_iload jx jb d_ShareWriter_putShare_50 (lv_at jl 0 rfl) ?_
          refine z_backe (va_runSN (As := [.int (iZ (gP y))]) (rest := [.int (iZ R2)]) ⟨jx, jb, jml, jown, jts⟩ (c_weight l D cI cB cZ (gP y) (by first | assumption | omega)) (zc_SN 1 jts cd_SC_weight (jK.nest ln_ShareWriter_37 rfl) st_SC_weight in_SC hd_SC_weight ⟨Nat.le_of_ble_eq_true rfl, Nat.le_of_ble_eq_true rfl⟩ rfl rfl) (z_preSR jK jP [] rfl) rfl rfl jl.1 rfl (lv_room (Nat.le_of_ble_eq_true rfl)) d_ShareWriter_putShare_52 ⟨Nat.le_of_ble_eq_true rfl, Nat.le_of_ble_eq_true rfl⟩) ?_
          refine z_isub jx jb d_ShareWriter_putShare_55 ?_
          refine lv_istore_n (lv' := [(2, .int (iZ (R2 - (wgt (gP y))))), (4, .int (iZ (gP y))), (0, .ref qs), (1, .ref h), (3, .int (iZ (y : Int)))]) jx jb d_ShareWriter_putShare_56 rfl jl (by decide) rfl (fun ls jl => ?_)
          refine lv_iinc (v := iZ ((y : Int) + 1)) (lv' := [(3, .int (iZ ((y : Int) + 1))), (2, .int (iZ (R2 - (wgt (gP y))))), (4, .int (iZ (gP y))), (0, .ref qs), (1, .ref h)]) jx jb d_ShareWriter_putShare_57 jl (k := 4) rfl (iZ_add _ _) (by decide) rfl (fun ls jl => ?_)
          refine lv_iload jx jb d_ShareWriter_putShare_60 (lv_at jl 2 rfl) ?_
          refine z_if_ne (tgt := 72) jx jb d_ShareWriter_putShare_62 (by decide) ⟨by omega, by omega⟩ (fun hc62 => ?_) (fun hc62 => ?_)
          ·
            refine lv_goto (tgt := 22) jx jb d_ShareWriter_putShare_72 (by decide) ?_
            exact ih22 (y + 1) (R2 - (wgt (gP y))) (V2 + numX R2 (gP y + 1).toNat * 2 ^ B2) (B2 + numN R2 (gP y + 1).toNat) L1_46 hd1_46 hn1_46 ov1_46 f1_46 (by omega) (by omega) (R_n hR2) (hu46) (shR_n hC (by omega) hc62) _ _ (jP.sub [0, 1, 2, 3] rfl) (jD.sub [0, 1, 2, 3] (by decide) rfl) jS _ (lv_sub jl [3, 4, 1, 0] rfl)
          ·
            refine lv_aload_n jx jb d_ShareWriter_putShare_65 rfl (lv_at jl 3 rfl) ?_
            refine lv_iload_n jx jb d_ShareWriter_putShare_66 rfl (lv_at jl 0 rfl) ?_
            refine lv_aload_n jx jb d_ShareWriter_putShare_67 rfl (lv_at jl 4 rfl) ?_
            refine z_backi (wr := []) jP jD jS jA [0, 1, 2, 3] [] rfl rfl (by decide) (by decide) (va_runS (As := [.ref qs, .int (iZ ((y : Int) + 1)), .ref h]) (rest := []) ⟨jx, jb, jml, jown, jts⟩ (c_SW_putZeros l D cI cB cZ H.size qs pP pS pB pA pC pF pN o gP h hb L1_46 hd1_46 hn1_46 ov1_46 ts tb f1_46 (V2 + numX R2 (gP y + 1).toNat * 2 ^ B2) (B2 + numN R2 (gP y + 1).toNat) (y + 1) (hu46) (by first | assumption | omega) (by omega)) (zc_S 3 jts cd_ShareWriter_putZeros lk_ShareWriter_40 st_ShareWriter_putZeros in_ShareWriter hd_ShareWriter_putZeros ⟨Nat.le_of_ble_eq_true rfl, Nat.le_of_ble_eq_true rfl⟩ rfl rfl) (z_preS jK jP jD [0, 1, 2, 3] (by decide) rfl rfl) rfl rfl jl.1 rfl (lv_room (Nat.le_of_ble_eq_true rfl)) d_ShareWriter_putShare_68 ⟨Nat.le_of_ble_eq_true rfl, Nat.le_of_ble_eq_true rfl⟩) (fun z68 u68 H locs hz68 jP jD jS => ?_)
            obtain ⟨b1_68, L1_68, hd1_68, hn1_68, ov1_68, f1_68⟩ := u68
            have jP : va_P D classes [(qs, .inr (1, [.ref pP, .ref pS, .ref pB, .ref pA, .ref pC, .ref pF, .ref pN, .int (iZ (o : Int))])), (pP, .inl (cI, 256, .inl (zA gP))), (h, .inr (0, [.ref hb, .int (iZ L1_68), .int (iZ hd1_68), .int (iZ hn1_68), .int (iZ ov1_68), .int (iZ ts), .int (iZ tb)])), (hb, .inl (cB, 6000, .inl (zA f1_68)))] H := jP.sub [0, 1, 2, 3] rfl
            have jD : va_D A [(qs, .inr (1, [.ref pP, .ref pS, .ref pB, .ref pA, .ref pC, .ref pF, .ref pN, .int (iZ (o : Int))])), (pP, .inl (cI, 256, .inl (zA gP))), (h, .inr (0, [.ref hb, .int (iZ L1_68), .int (iZ hd1_68), .int (iZ hn1_68), .int (iZ ov1_68), .int (iZ ts), .int (iZ tb)])), (hb, .inl (cB, 6000, .inl (zA f1_68)))] := jD.sub [0, 1, 2, 3] (by decide) rfl
            obtain ⟨rfl, hbz68, hrz68⟩ := hz68
            refine lv_istore_n (lv' := [(3, .int (iZ (b1_68 : Int))), (2, .int (iZ (R2 - (wgt (gP y))))), (4, .int (iZ (gP y))), (0, .ref qs), (1, .ref h)]) jx jb d_ShareWriter_putShare_71 rfl jl (by decide) rfl (fun ls jl => ?_)
            refine lv_goto (tgt := 22) jx jb d_ShareWriter_putShare_72 (by decide) ?_
            exact ih22 b1_68 (R2 - (wgt (gP y))) (V2 + numX R2 (gP y + 1).toNat * 2 ^ B2 + zX (b1_68 - (y + 1)) * 2 ^ (B2 + numN R2 (gP y + 1).toNat)) (B2 + numN R2 (gP y + 1).toNat + zN (b1_68 - (y + 1))) L1_68 hd1_68 hn1_68 ov1_68 f1_68 (by omega) (hbz68.2.1) (R_z hR2 hbz68) (hrz68) (shR_z hC (by omega) hc62 hbz68) _ _ (jP.sub [0, 1, 2, 3] rfl) (jD.sub [0, 1, 2, 3] (by decide) rfl) jS _ (lv_sub jl [3, 4, 1, 0] rfl)
  exact hloop22 ((256 - 0) + 1) 0 (2 ^ o) (o - 5) 4 L1_12 hd1_12 hn1_12 ov1_12 f1_12 (Nat.lt_succ_self _) (by first | assumption | omega) ((Int.sub_zero _).symm) (rI_first hu12) (dC_0) _ _ (jP.sub [0, 1, 2, 3] rfl) (jD.sub [0, 1, 2, 3] (by decide) rfl) jS _ (lv_sub jl [2, 3, 1, 0] rfl)
abbrev rm_SC_describe : Room := { frames := 6, cells := 0, slots := 0, locals := 128 }
set_option maxHeartbeats 4000000 in
set_option maxRecDepth 100000 in
theorem c_SC_describe (l : Launch) (D : va_G) (cI cB cZ : ClassId) (sz : Nat) (g : Nat) (qc : Nat) (qp : Nat) (qi : Nat) (qs : Nat) (qr : Nat) (qo : Nat) (qx : Nat) (ps : Int) (pP : Nat) (pS : Nat) (pB : Nat) (pA : Nat) (pC : Nat) (pF : Nat) (pN : Nat) (o : Nat) (gP : Nat → Int) (bo : Nat) (Lo : Int) (hdo : Int) (hno : Int) (ovo : Int) (tso : Int) (tbo : Int) (fo : Nat → Int) (hpr : ∀ k, k < 256 → -1 ≤ gP k ∧ gP k ≤ 65536) (ho : o = 0 ∨ (5 ≤ o ∧ o ≤ 12)) (hsum : 0 < o → cum gP 256 = 2 ^ o) (hfr : ∀ k, -128 ≤ fo k ∧ fo k < 128) : Met l y_SC_describe (.code y_SC_describe b_SC_describe 1 (some .int) :: zT) rm_SC_describe (zPc D classes (TY cI cB cZ) [(g, .inr (3, [.ref qc, .ref qp, .ref qi, .ref qs, .ref qr, .ref qo, .ref qx, .int (iZ ps)])), (qs, .inr (1, [.ref pP, .ref pS, .ref pB, .ref pA, .ref pC, .ref pF, .ref pN, .int (iZ (o : Int))])), (pP, .inl (cI, 256, .inl (zA gP))), (qo, .inr (0, [.ref bo, .int (iZ Lo), .int (iZ hdo), .int (iZ hno), .int (iZ ovo), .int (iZ tso), .int (iZ tbo)])), (bo, .inl (cB, 6000, .inl (zA fo)))] sz [.ref g]) (zFi (S := Int × Int × Int × Int × (Nat → Int)) D classes (fun z u => (z = -1 ∧ o = 0 ∧ u.1 = Lo ∧ u.2.1 = hdo ∧ u.2.2.1 = hno ∧ u.2.2.2.1 = ovo ∧ u.2.2.2.2 = fo) ∨ (z = u.1 ∧ 0 < o ∧ rI (dC gP o).1 (8 * (((dC gP o).2 + 7) / 8)) (((dC gP o).2 + 7) / 8) u.1 u.2.1 u.2.2.1 u.2.2.2.1 u.2.2.2.2)) (fun u => [(g, .inr (3, [.ref qc, .ref qp, .ref qi, .ref qs, .ref qr, .ref qo, .ref qx, .int (iZ ps)])), (qs, .inr (1, [.ref pP, .ref pS, .ref pB, .ref pA, .ref pC, .ref pF, .ref pN, .int (iZ (o : Int))])), (pP, .inl (cI, 256, .inl (zA gP))), (qo, .inr (0, [.ref bo, .int (iZ u.1), .int (iZ u.2.1), .int (iZ u.2.2.1), .int (iZ u.2.2.2.1), .int (iZ tso), .int (iZ tbo)])), (bo, .inl (cB, 6000, .inl (zA u.2.2.2.2)))]) (va_A [(g, .inr (3, [.ref qc, .ref qp, .ref qi, .ref qs, .ref qr, .ref qo, .ref qx, .int (iZ ps)])), (qs, .inr (1, [.ref pP, .ref pS, .ref pB, .ref pA, .ref pC, .ref pF, .ref pN, .int (iZ (o : Int))])), (pP, .inl (cI, 256, .inl (zA gP))), (qo, .inr (0, [.ref bo, .int (iZ Lo), .int (iZ hdo), .int (iZ hno), .int (iZ ovo), .int (iZ tso), .int (iZ tbo)])), (bo, .inl (cB, 6000, .inl (zA fo)))] sz)) 0 0 (va_A [(g, .inr (3, [.ref qc, .ref qp, .ref qi, .ref qs, .ref qr, .ref qo, .ref qx, .int (iZ ps)])), (qs, .inr (1, [.ref pP, .ref pS, .ref pB, .ref pA, .ref pC, .ref pF, .ref pN, .int (iZ (o : Int))])), (pP, .inl (cI, 256, .inl (zA gP))), (qo, .inr (0, [.ref bo, .int (iZ Lo), .int (iZ hdo), .int (iZ hno), .int (iZ ovo), .int (iZ tso), .int (iZ tbo)])), (bo, .inl (cB, 6000, .inl (zA fo)))] sz) := by
  refine z_ofi (by decide) (Nat.le_of_ble_eq_true rfl) (Or.inl rfl) ?_
  intro p e s m args below meth c A Q E jA jK jret H locs jP jD jS ls jl
  obtain ⟨jx, jb, jrt, jml, jown, jts, jlk⟩ := E
  have jown : s.vm.findClass R_SC = some m.cls := jown
  have jl : lv_has ls 1 [(0, .ref g)] := jl
  refine lv_aload_n jx jb d_SC_describe_0 rfl (lv_at jl 0 rfl) ?_
  refine va_get (D := D) (ci := 3) (v := .ref qs) (C := R_SC) (T := F_SC) (N := 8) jx jb jts i_SC jown jK.1 jP 0 rfl rfl 3 (by decide) (jts _ fl_SC_26) (fun _ h9 => h9) rfl d_SC_describe_1 ?_
  refine z_backr (va_runV (As := []) (rest := []) ⟨jx, jb, jml, jown, jts⟩ (c_Share_exists l D cI cB cZ qs pP pS pB pA pC pF pN o (by omega)) (zc_V 0 jts cd_Share_exists lk_SC_91 im_Share_exists se_Share_exists in_Share hd_Share_exists ⟨Nat.le_of_ble_eq_true rfl, Nat.le_of_ble_eq_true rfl⟩ rfl rfl) (z_preVR jK jP [1] rfl rfl rfl) rfl rfl jl.1 rfl (lv_room (Nat.le_of_ble_eq_true rfl)) d_SC_describe_4 ⟨Nat.le_of_ble_eq_true rfl, Nat.le_of_ble_eq_true rfl⟩) (fun z4 hz4 => ?_)
  rcases hz4 with ⟨rfl, hq4⟩ | ⟨rfl, hq4⟩
  ·
    refine z_if_ne (tgt := 12) jx jb d_SC_describe_7 (by decide) ⟨by decide, by decide⟩ (fun hc7 => ?_) (fun hc7 => ?_)
    ·
      refine lv_aload_n jx jb d_SC_describe_12 rfl (lv_at jl 0 rfl) ?_
      refine va_get (D := D) (ci := 3) (v := .ref qs) (C := R_SC) (T := F_SC) (N := 8) jx jb jts i_SC jown jK.1 jP 0 rfl rfl 3 (by decide) (jts _ fl_SC_26) (fun _ h9 => h9) rfl d_SC_describe_13 ?_
      refine lv_aload_n jx jb d_SC_describe_16 rfl (lv_at jl 0 rfl) ?_
      refine va_get (D := D) (ci := 3) (v := .ref qo) (C := R_SC) (T := F_SC) (N := 8) jx jb jts i_SC jown jK.1 jP 0 rfl rfl 5 (by decide) (jts _ fl_SC_37) (fun _ h9 => h9) rfl d_SC_describe_17 ?_
      refine z_backv (wr := [(g, .inr (3, [.ref qc, .ref qp, .ref qi, .ref qs, .ref qr, .ref qo, .ref qx, .int (iZ ps)]))]) jP jD jS jA [1, 2, 3, 4] [0] rfl rfl (by decide) (by decide) (va_runS (As := [.ref qs, .ref qo]) (rest := []) ⟨jx, jb, jml, jown, jts⟩ (c_SW_putShare l D cI cB cZ H.size qs pP pS pB pA pC pF pN o gP qo bo Lo hdo hno ovo tso tbo fo (by first | assumption | omega) (by omega) (hsum (by omega)) (hfr)) (zc_S 2 jts cd_ShareWriter_putShare lk_SC_95 st_ShareWriter_putShare in_ShareWriter hd_ShareWriter_putShare ⟨Nat.le_of_ble_eq_true rfl, Nat.le_of_ble_eq_true rfl⟩ rfl rfl) (z_preS jK jP jD [1, 2, 3, 4] (by decide) rfl rfl) rfl rfl jl.1 rfl (lv_room (Nat.le_of_ble_eq_true rfl)) d_SC_describe_20 ⟨Nat.le_of_ble_eq_true rfl, Nat.le_of_ble_eq_true rfl⟩) (fun u20 H locs hu20 jP jD jS => ?_)
      obtain ⟨L1_20, hd1_20, hn1_20, ov1_20, f1_20⟩ := u20
      have jP : va_P D classes [(g, .inr (3, [.ref qc, .ref qp, .ref qi, .ref qs, .ref qr, .ref qo, .ref qx, .int (iZ ps)])), (qs, .inr (1, [.ref pP, .ref pS, .ref pB, .ref pA, .ref pC, .ref pF, .ref pN, .int (iZ (o : Int))])), (pP, .inl (cI, 256, .inl (zA gP))), (qo, .inr (0, [.ref bo, .int (iZ L1_20), .int (iZ hd1_20), .int (iZ hn1_20), .int (iZ ov1_20), .int (iZ tso), .int (iZ tbo)])), (bo, .inl (cB, 6000, .inl (zA f1_20)))] H := jP.sub [0, 1, 2, 3, 4] rfl
      have jD : va_D A [(g, .inr (3, [.ref qc, .ref qp, .ref qi, .ref qs, .ref qr, .ref qo, .ref qx, .int (iZ ps)])), (qs, .inr (1, [.ref pP, .ref pS, .ref pB, .ref pA, .ref pC, .ref pF, .ref pN, .int (iZ (o : Int))])), (pP, .inl (cI, 256, .inl (zA gP))), (qo, .inr (0, [.ref bo, .int (iZ L1_20), .int (iZ hd1_20), .int (iZ hn1_20), .int (iZ ov1_20), .int (iZ tso), .int (iZ tbo)])), (bo, .inl (cB, 6000, .inl (zA f1_20)))] := jD.sub [0, 1, 2, 3, 4] (by decide) rfl
      refine lv_aload_n jx jb d_SC_describe_23 rfl (lv_at jl 0 rfl) ?_
      refine va_get (D := D) (ci := 3) (v := .ref qo) (C := R_SC) (T := F_SC) (N := 8) jx jb jts i_SC jown jK.1 jP 0 rfl rfl 5 (by decide) (jts _ fl_SC_37) (fun _ h9 => h9) rfl d_SC_describe_24 ?_
      refine z_backe (va_runV (As := []) (rest := []) ⟨jx, jb, jml, jown, jts⟩ (c_Row_length l D cI cB cZ qo bo L1_20 hd1_20 hn1_20 ov1_20 tso tbo) (zc_V 0 jts cd_Row_length lk_SC_43 im_Row_length se_Row_length in_Row hd_Row_length ⟨Nat.le_of_ble_eq_true rfl, Nat.le_of_ble_eq_true rfl⟩ rfl rfl) (z_preVR jK jP [3] rfl rfl rfl) rfl rfl jl.1 rfl (lv_room (Nat.le_of_ble_eq_true rfl)) d_SC_describe_27 ⟨Nat.le_of_ble_eq_true rfl, Nat.le_of_ble_eq_true rfl⟩) ?_
      exact jret _ _ _ (L1_20, hd1_20, hn1_20, ov1_20, f1_20) _ _ (Or.inl rfl) (Or.inr ⟨rfl, by omega, hu20⟩) (jP.sub [0, 1, 2, 3, 4] rfl) (jD.sub [0, 1, 2, 3, 4] (by decide) rfl) jS d_SC_describe_30
    ·
      exact absurd hc7 (by decide)
  ·
    refine z_if_ne (tgt := 12) jx jb d_SC_describe_7 (by decide) ⟨by decide, by decide⟩ (fun hc7 => ?_) (fun hc7 => ?_)
    ·
      exact absurd hc7 (by decide)
    ·
      refine lv_iconst (v := iZ (-1)) jx jb d_SC_describe_10 rfl ?_
      exact jret _ _ _ (Lo, hdo, hno, ovo, fo) _ _ (Or.inl rfl) (Or.inl ⟨rfl, by omega, rfl, rfl, rfl, rfl, rfl⟩) (jP.sub [0, 1, 2, 3, 4] rfl) (jD.sub [0, 1, 2, 3, 4] (by decide) rfl) jS d_SC_describe_11
end
section
theorem cd_Mod_beginOut : Cond.code y_Mod_beginOut b_Mod_beginOut 2 none ∈ zT := zT_of (List.mem_of_getElem? (i := 600) (by decide +kernel)) rfl
theorem hd_Mod_beginOut : y_Mod_beginOut.cls ≠ "java/lang/invoke/MethodHandle" ∧ y_Mod_beginOut.cls ≠ "java/lang/invoke/VarHandle" ∧ (parseMethodDescriptor y_Mod_beginOut.desc).map (fun d => d.parameters.length) = some 0 := by decide +kernel
theorem lk_Mod_87 : Cond.methodLink R_Mod 87 y_Mod_beginOut ∈ zT := zT_of (List.mem_of_getElem? (i := 597) (by decide +kernel)) rfl
theorem im_Mod_beginOut : Cond.instanceMethod y_Mod_beginOut ∈ zT := zT_of (List.mem_of_getElem? (i := 599) (by decide +kernel)) rfl
theorem se_Mod_beginOut : Cond.selects R_Mod y_Mod_beginOut y_Mod_beginOut ∈ zT := zT_of (List.mem_of_getElem? (i := 17) (by decide +kernel)) rfl
theorem cd_Mod_endOut : Cond.code y_Mod_endOut b_Mod_endOut 1 (some .int) ∈ zT := zT_of (List.mem_of_getElem? (i := 615) (by decide +kernel)) rfl
theorem hd_Mod_endOut : y_Mod_endOut.cls ≠ "java/lang/invoke/MethodHandle" ∧ y_Mod_endOut.cls ≠ "java/lang/invoke/VarHandle" ∧ (parseMethodDescriptor y_Mod_endOut.desc).map (fun d => d.parameters.length) = some 0 := by decide +kernel
theorem lk_Mod_93 : Cond.methodLink R_Mod 93 y_Mod_endOut ∈ zT := zT_of (List.mem_of_getElem? (i := 612) (by decide +kernel)) rfl
theorem im_Mod_endOut : Cond.instanceMethod y_Mod_endOut ∈ zT := zT_of (List.mem_of_getElem? (i := 614) (by decide +kernel)) rfl
theorem se_Mod_endOut : Cond.selects R_Mod y_Mod_endOut y_Mod_endOut ∈ zT := zT_of (List.mem_of_getElem? (i := 20) (by decide +kernel)) rfl
theorem cd_Mod_putNumber : Cond.code y_Mod_putNumber b_Mod_putNumber 6 none ∈ zT := zT_of (List.mem_of_getElem? (i := 608) (by decide +kernel)) rfl
theorem hd_Mod_putNumber : y_Mod_putNumber.cls ≠ "java/lang/invoke/MethodHandle" ∧ y_Mod_putNumber.cls ≠ "java/lang/invoke/VarHandle" ∧ (parseMethodDescriptor y_Mod_putNumber.desc).map (fun d => d.parameters.length) = some 2 := by decide +kernel
theorem lk_Mod_90 : Cond.methodLink R_Mod 90 y_Mod_putNumber ∈ zT := zT_of (List.mem_of_getElem? (i := 605) (by decide +kernel)) rfl
theorem im_Mod_putNumber : Cond.instanceMethod y_Mod_putNumber ∈ zT := zT_of (List.mem_of_getElem? (i := 607) (by decide +kernel)) rfl
theorem se_Mod_putNumber : Cond.selects R_Mod y_Mod_putNumber y_Mod_putNumber ∈ zT := zT_of (List.mem_of_getElem? (i := 19) (by decide +kernel)) rfl
theorem d_Mod_describe_0 : decode b_Mod_describe 0 = .ok (.aload_n 0, 1) := by decide +kernel
theorem d_Mod_describe_1 : decode b_Mod_describe 1 = .ok (.getfield 50, 3) := by decide +kernel
theorem d_Mod_describe_4 : decode b_Mod_describe 4 = .ok (.ifCond .ne 5, 3) := by decide +kernel
theorem d_Mod_describe_7 : decode b_Mod_describe 7 = .ok (.iconst (-1), 1) := by decide +kernel
theorem d_Mod_describe_8 : decode b_Mod_describe 8 = .ok (.ireturn, 1) := by decide +kernel
theorem d_Mod_describe_9 : decode b_Mod_describe 9 = .ok (.aload_n 0, 1) := by decide +kernel
theorem d_Mod_describe_10 : decode b_Mod_describe 10 = .ok (.invokevirtual 87, 3) := by decide +kernel
theorem d_Mod_describe_13 : decode b_Mod_describe 13 = .ok (.aload_n 0, 1) := by decide +kernel
theorem d_Mod_describe_14 : decode b_Mod_describe 14 = .ok (.aload_n 0, 1) := by decide +kernel
theorem d_Mod_describe_15 : decode b_Mod_describe 15 = .ok (.getfield 50, 3) := by decide +kernel
theorem d_Mod_describe_18 : decode b_Mod_describe 18 = .ok (.iconst 5, 1) := by decide +kernel
theorem d_Mod_describe_19 : decode b_Mod_describe 19 = .ok (.isub, 1) := by decide +kernel
theorem d_Mod_describe_20 : decode b_Mod_describe 20 = .ok (.iconst 4, 1) := by decide +kernel
theorem d_Mod_describe_21 : decode b_Mod_describe 21 = .ok (.invokevirtual 83, 3) := by decide +kernel
theorem d_Mod_describe_24 : decode b_Mod_describe 24 = .ok (.iconst 1, 1) := by decide +kernel
theorem d_Mod_describe_25 : decode b_Mod_describe 25 = .ok (.aload_n 0, 1) := by decide +kernel
theorem d_Mod_describe_26 : decode b_Mod_describe 26 = .ok (.getfield 50, 3) := by decide +kernel
theorem d_Mod_describe_29 : decode b_Mod_describe 29 = .ok (.ishl, 1) := by decide +kernel
theorem d_Mod_describe_30 : decode b_Mod_describe 30 = .ok (.istore_n 1, 1) := by decide +kernel
theorem d_Mod_describe_31 : decode b_Mod_describe 31 = .ok (.iconst 0, 1) := by decide +kernel
theorem d_Mod_describe_32 : decode b_Mod_describe 32 = .ok (.istore_n 2, 1) := by decide +kernel
theorem d_Mod_describe_33 : decode b_Mod_describe 33 = .ok (.iload_n 1, 1) := by decide +kernel
theorem d_Mod_describe_34 : decode b_Mod_describe 34 = .ok (.ifCond .le 116, 3) := by decide +kernel
theorem d_Mod_describe_37 : decode b_Mod_describe 37 = .ok (.iload_n 2, 1) := by decide +kernel
theorem d_Mod_describe_38 : decode b_Mod_describe 38 = .ok (.sipush 256, 3) := by decide +kernel
theorem d_Mod_describe_41 : decode b_Mod_describe 41 = .ok (.if_icmp .ge 109, 3) := by decide +kernel
theorem d_Mod_describe_44 : decode b_Mod_describe 44 = .ok (.aload_n 0, 1) := by decide +kernel
theorem d_Mod_describe_45 : decode b_Mod_describe 45 = .ok (.aload_n 0, 1) := by decide +kernel
theorem d_Mod_describe_46 : decode b_Mod_describe 46 = .ok (.getfield 19, 3) := by decide +kernel
theorem d_Mod_describe_49 : decode b_Mod_describe 49 = .ok (.iload_n 2, 1) := by decide +kernel
theorem d_Mod_describe_50 : decode b_Mod_describe 50 = .ok (.iaload, 1) := by decide +kernel
theorem d_Mod_describe_51 : decode b_Mod_describe 51 = .ok (.iconst 1, 1) := by decide +kernel
theorem d_Mod_describe_52 : decode b_Mod_describe 52 = .ok (.iadd, 1) := by decide +kernel
theorem d_Mod_describe_53 : decode b_Mod_describe 53 = .ok (.iload_n 1, 1) := by decide +kernel
theorem d_Mod_describe_54 : decode b_Mod_describe 54 = .ok (.invokevirtual 90, 3) := by decide +kernel
theorem d_Mod_describe_57 : decode b_Mod_describe 57 = .ok (.iload_n 1, 1) := by decide +kernel
theorem d_Mod_describe_58 : decode b_Mod_describe 58 = .ok (.aload_n 0, 1) := by decide +kernel
theorem d_Mod_describe_59 : decode b_Mod_describe 59 = .ok (.getfield 19, 3) := by decide +kernel
theorem d_Mod_describe_62 : decode b_Mod_describe 62 = .ok (.iload_n 2, 1) := by decide +kernel
theorem d_Mod_describe_63 : decode b_Mod_describe 63 = .ok (.iaload, 1) := by decide +kernel
theorem d_Mod_describe_64 : decode b_Mod_describe 64 = .ok (.invokestatic 46, 3) := by decide +kernel
theorem d_Mod_describe_67 : decode b_Mod_describe 67 = .ok (.isub, 1) := by decide +kernel
theorem d_Mod_describe_68 : decode b_Mod_describe 68 = .ok (.istore_n 1, 1) := by decide +kernel
theorem d_Mod_describe_69 : decode b_Mod_describe 69 = .ok (.iconst 0, 1) := by decide +kernel
theorem d_Mod_describe_70 : decode b_Mod_describe 70 = .ok (.istore_n 3, 1) := by decide +kernel
theorem d_Mod_describe_71 : decode b_Mod_describe 71 = .ok (.aload_n 0, 1) := by decide +kernel
theorem d_Mod_describe_72 : decode b_Mod_describe 72 = .ok (.getfield 19, 3) := by decide +kernel
theorem d_Mod_describe_75 : decode b_Mod_describe 75 = .ok (.iload_n 2, 1) := by decide +kernel
theorem d_Mod_describe_76 : decode b_Mod_describe 76 = .ok (.iaload, 1) := by decide +kernel
theorem d_Mod_describe_77 : decode b_Mod_describe 77 = .ok (.ifCond .ne 64, 3) := by decide +kernel
theorem d_Mod_describe_80 : decode b_Mod_describe 80 = .ok (.iload_n 2, 1) := by decide +kernel
theorem d_Mod_describe_81 : decode b_Mod_describe 81 = .ok (.iconst 1, 1) := by decide +kernel
theorem d_Mod_describe_82 : decode b_Mod_describe 82 = .ok (.iadd, 1) := by decide +kernel
theorem d_Mod_describe_83 : decode b_Mod_describe 83 = .ok (.iload_n 3, 1) := by decide +kernel
theorem d_Mod_describe_84 : decode b_Mod_describe 84 = .ok (.iadd, 1) := by decide +kernel
theorem d_Mod_describe_85 : decode b_Mod_describe 85 = .ok (.sipush 256, 3) := by decide +kernel
theorem d_Mod_describe_88 : decode b_Mod_describe 88 = .ok (.if_icmp .ge 22, 3) := by decide +kernel
theorem d_Mod_describe_91 : decode b_Mod_describe 91 = .ok (.aload_n 0, 1) := by decide +kernel
theorem d_Mod_describe_92 : decode b_Mod_describe 92 = .ok (.getfield 19, 3) := by decide +kernel
theorem d_Mod_describe_95 : decode b_Mod_describe 95 = .ok (.iload_n 2, 1) := by decide +kernel
theorem d_Mod_describe_96 : decode b_Mod_describe 96 = .ok (.iconst 1, 1) := by decide +kernel
theorem d_Mod_describe_97 : decode b_Mod_describe 97 = .ok (.iadd, 1) := by decide +kernel
theorem d_Mod_describe_98 : decode b_Mod_describe 98 = .ok (.iload_n 3, 1) := by decide +kernel
theorem d_Mod_describe_99 : decode b_Mod_describe 99 = .ok (.iadd, 1) := by decide +kernel
theorem d_Mod_describe_100 : decode b_Mod_describe 100 = .ok (.iaload, 1) := by decide +kernel
theorem d_Mod_describe_101 : decode b_Mod_describe 101 = .ok (.ifCond .ne 9, 3) := by decide +kernel
theorem d_Mod_describe_104 : decode b_Mod_describe 104 = .ok (.iinc 3 1, 3) := by decide +kernel
theorem d_Mod_describe_107 : decode b_Mod_describe 107 = .ok (.goto (-27), 3) := by decide +kernel
theorem d_Mod_describe_110 : decode b_Mod_describe 110 = .ok (.iconst 0, 1) := by decide +kernel
theorem d_Mod_describe_111 : decode b_Mod_describe 111 = .ok (.istore 4, 2) := by decide +kernel
theorem d_Mod_describe_113 : decode b_Mod_describe 113 = .ok (.iload 4, 2) := by decide +kernel
theorem d_Mod_describe_115 : decode b_Mod_describe 115 = .ok (.iload_n 3, 1) := by decide +kernel
theorem d_Mod_describe_116 : decode b_Mod_describe 116 = .ok (.iconst 3, 1) := by decide +kernel
theorem d_Mod_describe_117 : decode b_Mod_describe 117 = .ok (.idiv, 1) := by decide +kernel
theorem d_Mod_describe_118 : decode b_Mod_describe 118 = .ok (.if_icmp .ge 15, 3) := by decide +kernel
theorem d_Mod_describe_121 : decode b_Mod_describe 121 = .ok (.aload_n 0, 1) := by decide +kernel
theorem d_Mod_describe_122 : decode b_Mod_describe 122 = .ok (.iconst 3, 1) := by decide +kernel
theorem d_Mod_describe_123 : decode b_Mod_describe 123 = .ok (.iconst 2, 1) := by decide +kernel
theorem d_Mod_describe_124 : decode b_Mod_describe 124 = .ok (.invokevirtual 83, 3) := by decide +kernel
theorem d_Mod_describe_127 : decode b_Mod_describe 127 = .ok (.iinc 4 1, 3) := by decide +kernel
theorem d_Mod_describe_130 : decode b_Mod_describe 130 = .ok (.goto (-17), 3) := by decide +kernel
theorem d_Mod_describe_133 : decode b_Mod_describe 133 = .ok (.aload_n 0, 1) := by decide +kernel
theorem d_Mod_describe_134 : decode b_Mod_describe 134 = .ok (.iload_n 3, 1) := by decide +kernel
theorem d_Mod_describe_135 : decode b_Mod_describe 135 = .ok (.iconst 3, 1) := by decide +kernel
theorem d_Mod_describe_136 : decode b_Mod_describe 136 = .ok (.irem, 1) := by decide +kernel
theorem d_Mod_describe_137 : decode b_Mod_describe 137 = .ok (.iconst 2, 1) := by decide +kernel
theorem d_Mod_describe_138 : decode b_Mod_describe 138 = .ok (.invokevirtual 83, 3) := by decide +kernel
theorem d_Mod_describe_141 : decode b_Mod_describe 141 = .ok (.iload_n 2, 1) := by decide +kernel
theorem d_Mod_describe_142 : decode b_Mod_describe 142 = .ok (.iconst 1, 1) := by decide +kernel
theorem d_Mod_describe_143 : decode b_Mod_describe 143 = .ok (.iload_n 3, 1) := by decide +kernel
theorem d_Mod_describe_144 : decode b_Mod_describe 144 = .ok (.iadd, 1) := by decide +kernel
theorem d_Mod_describe_145 : decode b_Mod_describe 145 = .ok (.iadd, 1) := by decide +kernel
theorem d_Mod_describe_146 : decode b_Mod_describe 146 = .ok (.istore_n 2, 1) := by decide +kernel
theorem d_Mod_describe_147 : decode b_Mod_describe 147 = .ok (.goto (-114), 3) := by decide +kernel
theorem d_Mod_describe_150 : decode b_Mod_describe 150 = .ok (.aload_n 0, 1) := by decide +kernel
theorem d_Mod_describe_151 : decode b_Mod_describe 151 = .ok (.invokevirtual 93, 3) := by decide +kernel
theorem d_Mod_describe_154 : decode b_Mod_describe 154 = .ok (.ireturn, 1) := by decide +kernel
abbrev rm_M_describe : Room := { frames := 2, cells := 0, slots := 0, locals := 48 }
set_option maxHeartbeats 4000000 in
set_option maxRecDepth 100000 in
theorem c_M_describe (l : Launch) (D : va_G) (cI cB cZ : ClassId) (sz : Nat) (r : Nat) (ri : Nat) (ro : Nat) (rc : Nat) (rp : Nat) (rs : Nat) (rd : Nat) (rk : Nat) (rh : Nat) (iL : Int) (go : Int) (oL : Int) (o : Nat) (bP : Int) (bR : Int) (xp : Nat → Int) (xo : Nat → Int) (hpr : ∀ k, k < 256 → -1 ≤ xp k ∧ xp k ≤ 65536) (ho : o = 0 ∨ (5 ≤ o ∧ o ≤ 12)) (hsum : 0 < o → cum xp 256 = 2 ^ o) : Met l y_Mod_describe (.code y_Mod_describe b_Mod_describe 5 (some .int) :: zT) rm_M_describe (zPc D classes (TY cI cB cZ) [(r, .inr (4, [.ref ri, .int (iZ iL), .int (iZ go), .ref ro, .int (iZ oL), .ref rc, .int (iZ (o : Int)), .ref rp, .ref rs, .ref rd, .ref rk, .ref rh, .int (iZ bP), .int (iZ bR)])), (rp, .inl (cI, 256, .inl (zA xp))), (ro, .inl (cI, 6000, .inl (zA xo)))] sz [.ref r]) (zFi (S := Int × Int × (Nat → Int)) D classes (fun z u => (z = -1 ∧ o = 0 ∧ u.1 = oL ∧ u.2.2 = xo) ∨ (z = u.1 ∧ 0 < o ∧ u.1 = (((dC xp o).2 + 7) / 8 : Nat) ∧ mO (dC xp o).1 (dC xp o).2 u.2.2)) (fun u => [(r, .inr (4, [.ref ri, .int (iZ iL), .int (iZ go), .ref ro, .int (iZ u.1), .ref rc, .int (iZ (o : Int)), .ref rp, .ref rs, .ref rd, .ref rk, .ref rh, .int (iZ u.2.1), .int (iZ bR)])), (rp, .inl (cI, 256, .inl (zA xp))), (ro, .inl (cI, 6000, .inl (zA u.2.2)))]) (va_A [(r, .inr (4, [.ref ri, .int (iZ iL), .int (iZ go), .ref ro, .int (iZ oL), .ref rc, .int (iZ (o : Int)), .ref rp, .ref rs, .ref rd, .ref rk, .ref rh, .int (iZ bP), .int (iZ bR)])), (rp, .inl (cI, 256, .inl (zA xp))), (ro, .inl (cI, 6000, .inl (zA xo)))] sz)) 0 0 (va_A [(r, .inr (4, [.ref ri, .int (iZ iL), .int (iZ go), .ref ro, .int (iZ oL), .ref rc, .int (iZ (o : Int)), .ref rp, .ref rs, .ref rd, .ref rk, .ref rh, .int (iZ bP), .int (iZ bR)])), (rp, .inl (cI, 256, .inl (zA xp))), (ro, .inl (cI, 6000, .inl (zA xo)))] sz) := by
  refine z_ofi (by decide) (Nat.le_of_ble_eq_true rfl) (Or.inl rfl) ?_
  intro p e s m args below meth c A Q E jA jK jret H locs jP jD jS ls jl
  obtain ⟨jx, jb, jrt, jml, jown, jts, jlk⟩ := E
  have jown : s.vm.findClass R_Mod = some m.cls := jown
  have jl : lv_has ls 5 [(0, .ref r)] := jl
  refine lv_aload_n jx jb d_Mod_describe_0 rfl (lv_at jl 0 rfl) ?_
  refine va_get (D := D) (ci := 4) (v := .int (iZ (o : Int))) (C := R_Mod) (T := F_Mod) (N := 14) jx jb jts i_Mod jown jK.1 jP 0 rfl rfl 6 (by decide) (jts _ fl_Mod_50) (fun _ h9 => h9) rfl d_Mod_describe_1 ?_
  refine z_if_ne (tgt := 9) jx jb d_Mod_describe_4 (by decide) ⟨by omega, by omega⟩ (fun hc4 => ?_) (fun hc4 => ?_)
  ·
    have ho1 : 5 ≤ o ∧ o ≤ 12 := by omega
    have hp12 := p2_le ho1.2
    have hsm := hsum (by omega)
    refine lv_aload_n jx jb d_Mod_describe_9 rfl (lv_at jl 0 rfl) ?_
    refine z_backv (wr := [(rp, .inl (cI, 256, .inl (zA xp)))]) jP jD jS jA [0, 2] [1] rfl rfl (by decide) (by decide) (va_runV (As := []) (rest := []) ⟨jx, jb, jml, jown, jts⟩ (c_M_beginOut l D cI cB cZ H.size r ri ro rc rp rs rd rk rh iL go oL o bP bR xo) (zc_V 0 jts cd_Mod_beginOut lk_Mod_87 im_Mod_beginOut se_Mod_beginOut in_Mod hd_Mod_beginOut ⟨Nat.le_of_ble_eq_true rfl, Nat.le_of_ble_eq_true rfl⟩ rfl rfl) (z_preV jK jP jD [0, 2] (by decide) rfl rfl rfl rfl) rfl rfl jl.1 rfl (lv_room (Nat.le_of_ble_eq_true rfl)) d_Mod_describe_10 ⟨Nat.le_of_ble_eq_true rfl, Nat.le_of_ble_eq_true rfl⟩) (fun u10 H locs hu10 jP jD jS => ?_)
    obtain ⟨xo1_10, rfl⟩ : ∃ z, z = u10 := ⟨_, rfl⟩
    have jP : va_P D classes [(r, .inr (4, [.ref ri, .int (iZ iL), .int (iZ go), .ref ro, .int (iZ oL), .ref rc, .int (iZ (o : Int)), .ref rp, .ref rs, .ref rd, .ref rk, .ref rh, .int (iZ 0), .int (iZ bR)])), (rp, .inl (cI, 256, .inl (zA xp))), (ro, .inl (cI, 6000, .inl (zA xo1_10)))] H := jP.sub [1, 0, 2] rfl
    have jD : va_D A [(r, .inr (4, [.ref ri, .int (iZ iL), .int (iZ go), .ref ro, .int (iZ oL), .ref rc, .int (iZ (o : Int)), .ref rp, .ref rs, .ref rd, .ref rk, .ref rh, .int (iZ 0), .int (iZ bR)])), (rp, .inl (cI, 256, .inl (zA xp))), (ro, .inl (cI, 6000, .inl (zA xo1_10)))] := jD.sub [1, 0, 2] (by decide) rfl
    refine lv_aload_n jx jb d_Mod_describe_13 rfl (lv_at jl 0 rfl) ?_
    refine lv_aload_n jx jb d_Mod_describe_14 rfl (lv_at jl 0 rfl) ?_
    refine va_get (D := D) (ci := 4) (v := .int (iZ (o : Int))) (C := R_Mod) (T := F_Mod) (N := 14) jx jb jts i_Mod jown jK.1 jP 0 rfl rfl 6 (by decide) (jts _ fl_Mod_50) (fun _ h9 => h9) rfl d_Mod_describe_15 ?_
    refine lv_iconst (v := iZ 5) jx jb d_Mod_describe_18 rfl ?_
    refine z_isub jx jb d_Mod_describe_19 ?_
    refine z_top ((o - 5 : Nat) : Int) (by omega) ?_
    refine lv_iconst (v := iZ 4) jx jb d_Mod_describe_20 rfl ?_
    refine z_backv (wr := [(rp, .inl (cI, 256, .inl (zA xp)))]) jP jD jS jA [0, 2] [1] rfl rfl (by decide) (by decide) (va_runV (As := [.int (iZ ((o - 5 : Nat) : Int)), .int (iZ 4)]) (rest := []) ⟨jx, jb, jml, jown, jts⟩ (c_M_put l D cI cB cZ H.size r ri ro rc rp rs rd rk rh iL go oL o bR xo1_10 0 0 (o - 5 : Nat) 4 (hu10) (by omega) (by decide) (by decide)) (zc_V 2 jts cd_Mod_put lk_Mod_83 im_Mod_put se_Mod_put in_Mod hd_Mod_put ⟨Nat.le_of_ble_eq_true rfl, Nat.le_of_ble_eq_true rfl⟩ rfl rfl) (z_preV jK jP jD [0, 2] (by decide) rfl rfl rfl rfl) rfl rfl jl.1 rfl (lv_room (Nat.le_of_ble_eq_true rfl)) d_Mod_describe_21 ⟨Nat.le_of_ble_eq_true rfl, Nat.le_of_ble_eq_true rfl⟩) (fun u21 H locs hu21 jP jD jS => ?_)
    obtain ⟨xo1_21, rfl⟩ : ∃ z, z = u21 := ⟨_, rfl⟩
    have jP : va_P D classes [(r, .inr (4, [.ref ri, .int (iZ iL), .int (iZ go), .ref ro, .int (iZ oL), .ref rc, .int (iZ (o : Int)), .ref rp, .ref rs, .ref rd, .ref rk, .ref rh, .int (iZ ((0 + 4 : Nat) : Int)), .int (iZ bR)])), (rp, .inl (cI, 256, .inl (zA xp))), (ro, .inl (cI, 6000, .inl (zA xo1_21)))] H := jP.sub [1, 0, 2] rfl
    have jD : va_D A [(r, .inr (4, [.ref ri, .int (iZ iL), .int (iZ go), .ref ro, .int (iZ oL), .ref rc, .int (iZ (o : Int)), .ref rp, .ref rs, .ref rd, .ref rk, .ref rh, .int (iZ ((0 + 4 : Nat) : Int)), .int (iZ bR)])), (rp, .inl (cI, 256, .inl (zA xp))), (ro, .inl (cI, 6000, .inl (zA xo1_21)))] := jD.sub [1, 0, 2] (by decide) rfl
    refine lv_iconst (v := iZ 1) jx jb d_Mod_describe_24 rfl ?_
    refine lv_aload_n jx jb d_Mod_describe_25 rfl (lv_at jl 0 rfl) ?_
    refine va_get (D := D) (ci := 4) (v := .int (iZ (o : Int))) (C := R_Mod) (T := F_Mod) (N := 14) jx jb jts i_Mod jown jK.1 jP 0 rfl rfl 6 (by decide) (jts _ fl_Mod_50) (fun _ h9 => h9) rfl d_Mod_describe_26 ?_
    refine z_ishl jx jb d_Mod_describe_29 o (2 ^ o) (rfl) (by omega) ?_
    refine z_top (2 ^ o) (Int.one_mul _) ?_
    refine lv_istore_n (lv' := [(1, .int (iZ (2 ^ o))), (0, .ref r)]) jx jb d_Mod_describe_30 rfl jl (by decide) rfl (fun ls jl => ?_)
    refine lv_iconst (v := iZ 0) jx jb d_Mod_describe_31 rfl ?_
    refine lv_istore_n (lv' := [(2, .int (iZ 0)), (1, .int (iZ (2 ^ o))), (0, .ref r)]) jx jb d_Mod_describe_32 rfl jl (by decide) rfl (fun ls jl => ?_)
    have hloop33 : ∀ (nF : Nat) (y : Nat) (R2 : Int) (V2 : Nat) (B2 : Nat) (x2 : Nat → Int), 256 - y < nF → (y ≤ 256) → (R2 = 2 ^ o - cum xp y) → (mO V2 B2 x2) → (B2 ≤ 4 + 15 * y) → (shR xp (dC xp o) y R2 V2 B2) → ∀ (H : Heap) (locs : List Loc), va_P D classes [(r, .inr (4, [.ref ri, .int (iZ iL), .int (iZ go), .ref ro, .int (iZ oL), .ref rc, .int (iZ (o : Int)), .ref rp, .ref rs, .ref rd, .ref rk, .ref rh, .int (iZ (B2 : Int)), .int (iZ bR)])), (rp, .inl (cI, 256, .inl (zA xp))), (ro, .inl (cI, 6000, .inl (zA x2)))] H → va_D A [(r, .inr (4, [.ref ri, .int (iZ iL), .int (iZ go), .ref ro, .int (iZ oL), .ref rc, .int (iZ (o : Int)), .ref rp, .ref rs, .ref rd, .ref rk, .ref rh, .int (iZ (B2 : Int)), .int (iZ bR)])), (rp, .inl (cI, 256, .inl (zA xp))), (ro, .inl (cI, 6000, .inl (zA x2)))] → va_S A s.heap H locs → ∀ ls : Array Slot, lv_has ls 5 [(0, .ref r), (1, .int (iZ R2)), (2, .int (iZ (y : Int)))] → W p l e rm_M_describe s m args below meth c H locs 0 0 Q (F0 m 33 ls []) := by
      intro nF
      induction nF with
      | zero => intro y R2 V2 B2 x2 hm; exact absurd hm (Nat.not_lt_zero _)
      | succ nF ih33 =>
        intro y R2 V2 B2 x2 hm hy hR2 h2 hB2 hC H locs jP jD jS ls jl
        have hcl := cum_lo hpr (b := y) hy
        have hcu := cum_mono hpr (a := y) (b := 256) hy (by omega)
        refine lv_iload_n jx jb d_Mod_describe_33 rfl (lv_at jl 1 rfl) ?_
        refine z_if_le (tgt := 150) jx jb d_Mod_describe_34 (by decide) ⟨by omega, by omega⟩ (fun hc34 => ?_) (fun hc34 => ?_)
        ·
          refine lv_aload_n jx jb d_Mod_describe_150 rfl (lv_at jl 0 rfl) ?_
          refine z_backie (wr := [(rp, .inl (cI, 256, .inl (zA xp))), (ro, .inl (cI, 6000, .inl (zA x2)))]) jP jD jS jA [0] [1, 2] rfl rfl (by decide) (by decide) (va_runV (As := []) (rest := []) ⟨jx, jb, jml, jown, jts⟩ (c_M_endOut l D cI cB cZ H.size r ri ro rc rp rs rd rk rh iL go oL o (B2 : Int) bR (by have := h2.2.1; omega)) (zc_V 0 jts cd_Mod_endOut lk_Mod_93 im_Mod_endOut se_Mod_endOut in_Mod hd_Mod_endOut ⟨Nat.le_of_ble_eq_true rfl, Nat.le_of_ble_eq_true rfl⟩ rfl rfl) (z_preV jK jP jD [0] (by decide) rfl rfl rfl rfl) rfl rfl jl.1 rfl (lv_room (Nat.le_of_ble_eq_true rfl)) d_Mod_describe_151 ⟨Nat.le_of_ble_eq_true rfl, Nat.le_of_ble_eq_true rfl⟩) (fun u151 H locs jP jD jS => ?_)
          have jP : va_P D classes [(r, .inr (4, [.ref ri, .int (iZ iL), .int (iZ go), .ref ro, .int (iZ (((B2 : Int) + 7) / 8)), .ref rc, .int (iZ (o : Int)), .ref rp, .ref rs, .ref rd, .ref rk, .ref rh, .int (iZ (B2 : Int)), .int (iZ bR)])), (rp, .inl (cI, 256, .inl (zA xp))), (ro, .inl (cI, 6000, .inl (zA x2)))] H := jP.sub [2, 0, 1] rfl
          have jD : va_D A [(r, .inr (4, [.ref ri, .int (iZ iL), .int (iZ go), .ref ro, .int (iZ (((B2 : Int) + 7) / 8)), .ref rc, .int (iZ (o : Int)), .ref rp, .ref rs, .ref rd, .ref rk, .ref rh, .int (iZ (B2 : Int)), .int (iZ bR)])), (rp, .inl (cI, 256, .inl (zA xp))), (ro, .inl (cI, 6000, .inl (zA x2)))] := jD.sub [2, 0, 1] (by decide) rfl
          have hdc := shR_e hC (by omega)
          exact jret _ _ _ ((((B2 : Int) + 7) / 8), (B2 : Int), x2) _ _ (Or.inl rfl) (Or.inr ⟨rfl, by omega, by rw [hdc]; omega, by rw [hdc]; exact h2⟩) (jP.sub [0, 1, 2] rfl) (jD.sub [0, 1, 2] (by decide) rfl) jS d_Mod_describe_154
        ·
          refine lv_iload_n jx jb d_Mod_describe_37 rfl (lv_at jl 2 rfl) ?_
          refine lv_sipush (v := iZ 256) jx jb d_Mod_describe_38 (by decide) ?_
          refine z_icmp_ge (tgt := 150) jx jb d_Mod_describe_41 (by decide) ⟨⟨by omega, by omega⟩, ⟨by decide, by decide⟩⟩ (fun hc41 => ?_) (fun hc41 => ?_)
          ·
            refine lv_aload_n jx jb d_Mod_describe_150 rfl (lv_at jl 0 rfl) ?_
            refine z_backie (wr := [(rp, .inl (cI, 256, .inl (zA xp))), (ro, .inl (cI, 6000, .inl (zA x2)))]) jP jD jS jA [0] [1, 2] rfl rfl (by decide) (by decide) (va_runV (As := []) (rest := []) ⟨jx, jb, jml, jown, jts⟩ (c_M_endOut l D cI cB cZ H.size r ri ro rc rp rs rd rk rh iL go oL o (B2 : Int) bR (by have := h2.2.1; omega)) (zc_V 0 jts cd_Mod_endOut lk_Mod_93 im_Mod_endOut se_Mod_endOut in_Mod hd_Mod_endOut ⟨Nat.le_of_ble_eq_true rfl, Nat.le_of_ble_eq_true rfl⟩ rfl rfl) (z_preV jK jP jD [0] (by decide) rfl rfl rfl rfl) rfl rfl jl.1 rfl (lv_room (Nat.le_of_ble_eq_true rfl)) d_Mod_describe_151 ⟨Nat.le_of_ble_eq_true rfl, Nat.le_of_ble_eq_true rfl⟩) (fun u151 H locs jP jD jS => ?_)
            have jP : va_P D classes [(r, .inr (4, [.ref ri, .int (iZ iL), .int (iZ go), .ref ro, .int (iZ (((B2 : Int) + 7) / 8)), .ref rc, .int (iZ (o : Int)), .ref rp, .ref rs, .ref rd, .ref rk, .ref rh, .int (iZ (B2 : Int)), .int (iZ bR)])), (rp, .inl (cI, 256, .inl (zA xp))), (ro, .inl (cI, 6000, .inl (zA x2)))] H := jP.sub [2, 0, 1] rfl
            have jD : va_D A [(r, .inr (4, [.ref ri, .int (iZ iL), .int (iZ go), .ref ro, .int (iZ (((B2 : Int) + 7) / 8)), .ref rc, .int (iZ (o : Int)), .ref rp, .ref rs, .ref rd, .ref rk, .ref rh, .int (iZ (B2 : Int)), .int (iZ bR)])), (rp, .inl (cI, 256, .inl (zA xp))), (ro, .inl (cI, 6000, .inl (zA x2)))] := jD.sub [2, 0, 1] (by decide) rfl
            have hdc := shR_e hC (by omega)
            exact jret _ _ _ ((((B2 : Int) + 7) / 8), (B2 : Int), x2) _ _ (Or.inl rfl) (Or.inr ⟨rfl, by omega, by rw [hdc]; omega, by rw [hdc]; exact h2⟩) (jP.sub [0, 1, 2] rfl) (jD.sub [0, 1, 2] (by decide) rfl) jS d_Mod_describe_154
          ·
            have hpy := hpr y (by omega)
            have hfit := cum_fit hpr (y := y) (by omega)
            have hwp := wgt_pt hpy.1 (show wgt (xp y) ≤ R2 by omega) (by omega)
            have hnn := numN_le (R := R2) (v := (xp y + 1).toNat) (by omega) (by omega)
            refine lv_aload_n jx jb d_Mod_describe_44 rfl (lv_at jl 0 rfl) ?_
            refine lv_aload_n jx jb d_Mod_describe_45 rfl (lv_at jl 0 rfl) ?_
            refine va_get (D := D) (ci := 4) (v := .ref rp) (C := R_Mod) (T := F_Mod) (N := 14) jx jb jts i_Mod jown jK.1 jP 0 rfl rfl 7 (by decide) (jts _ fl_Mod_19) (fun _ h9 => h9) rfl d_Mod_describe_46 ?_
            refine lv_iload_n jx jb d_Mod_describe_49 rfl (lv_at jl 2 rfl) ?_
            refine z_iald jx jb jK.1 jP 1 0 rfl rfl y (by omega) d_Mod_describe_50 ?_
            refine lv_iconst (v := iZ 1) jx jb d_Mod_describe_51 rfl ?_
            refine z_iadd jx jb d_Mod_describe_52 ?_
            refine z_top ((xp y + 1).toNat : Int) (by omega) ?_
            refine lv_iload_n jx jb d_Mod_describe_53 rfl (lv_at jl 1 rfl) ?_
            refine z_backv (wr := [(rp, .inl (cI, 256, .inl (zA xp)))]) jP jD jS jA [0, 2] [1] rfl rfl (by decide) (by decide) (va_runV (As := [.int (iZ ((xp y + 1).toNat : Int)), .int (iZ R2)]) (rest := []) ⟨jx, jb, jml, jown, jts⟩ (c_M_putNumber l D cI cB cZ H.size r ri ro rc rp rs rd rk rh iL go oL o bR x2 V2 B2 ((xp y + 1).toNat) R2 (h2) (by omega) (by omega) (by omega)) (zc_V 2 jts cd_Mod_putNumber lk_Mod_90 im_Mod_putNumber se_Mod_putNumber in_Mod hd_Mod_putNumber ⟨Nat.le_of_ble_eq_true rfl, Nat.le_of_ble_eq_true rfl⟩ rfl rfl) (z_preV jK jP jD [0, 2] (by decide) rfl rfl rfl rfl) rfl rfl jl.1 rfl (lv_room (Nat.le_of_ble_eq_true rfl)) d_Mod_describe_54 ⟨Nat.le_of_ble_eq_true rfl, Nat.le_of_ble_eq_true rfl⟩) (fun u54 H locs hu54 jP jD jS => ?_)
            obtain ⟨xo1_54, rfl⟩ : ∃ z, z = u54 := ⟨_, rfl⟩
            have jP : va_P D classes [(r, .inr (4, [.ref ri, .int (iZ iL), .int (iZ go), .ref ro, .int (iZ oL), .ref rc, .int (iZ (o : Int)), .ref rp, .ref rs, .ref rd, .ref rk, .ref rh, .int (iZ ((B2 + numN R2 ((xp y + 1).toNat) : Nat) : Int)), .int (iZ bR)])), (rp, .inl (cI, 256, .inl (zA xp))), (ro, .inl (cI, 6000, .inl (zA xo1_54)))] H := jP.sub [1, 0, 2] rfl
            have jD : va_D A [(r, .inr (4, [.ref ri, .int (iZ iL), .int (iZ go), .ref ro, .int (iZ oL), .ref rc, .int (iZ (o : Int)), .ref rp, .ref rs, .ref rd, .ref rk, .ref rh, .int (iZ ((B2 + numN R2 ((xp y + 1).toNat) : Nat) : Int)), .int (iZ bR)])), (rp, .inl (cI, 256, .inl (zA xp))), (ro, .inl (cI, 6000, .inl (zA xo1_54)))] := jD.sub [1, 0, 2] (by decide) rfl
            refine lv_iload_n jx jb d_Mod_describe_57 rfl (lv_at jl 1 rfl) ?_
            refine lv_aload_n jx jb d_Mod_describe_58 rfl (lv_at jl 0 rfl) ?_
            refine va_get (D := D) (ci := 4) (v := .ref rp) (C := R_Mod) (T := F_Mod) (N := 14) jx jb jts i_Mod jown jK.1 jP 0 rfl rfl 7 (by decide) (jts _ fl_Mod_19) (fun _ h9 => h9) rfl d_Mod_describe_59 ?_
            refine lv_iload_n jx jb d_Mod_describe_62 rfl (lv_at jl 2 rfl) ?_
            refine z_iald jx jb jK.1 jP 1 0 rfl rfl y (by omega) d_Mod_describe_63 ?_
            refine z_backe (va_runS (As := [.int (iZ (xp y))]) (rest := [.int (iZ R2)]) ⟨jx, jb, jml, jown, jts⟩ (c_M_weight l D cI cB cZ (xp y) (by first | assumption | omega)) (zc_S 1 jts cd_Mod_weight lk_Mod_46 st_Mod_weight in_Mod hd_Mod_weight ⟨Nat.le_of_ble_eq_true rfl, Nat.le_of_ble_eq_true rfl⟩ rfl rfl) (z_preSR jK jP [] rfl) rfl rfl jl.1 rfl (lv_room (Nat.le_of_ble_eq_true rfl)) d_Mod_describe_64 ⟨Nat.le_of_ble_eq_true rfl, Nat.le_of_ble_eq_true rfl⟩) ?_
            refine z_isub jx jb d_Mod_describe_67 ?_
            refine lv_istore_n (lv' := [(1, .int (iZ (R2 - (wgt (xp y))))), (0, .ref r), (2, .int (iZ (y : Int)))]) jx jb d_Mod_describe_68 rfl jl (by decide) rfl (fun ls jl => ?_)
            refine lv_iconst (v := iZ 0) jx jb d_Mod_describe_69 rfl ?_
            refine lv_istore_n (lv' := [(3, .int (iZ 0)), (1, .int (iZ (R2 - (wgt (xp y))))), (0, .ref r), (2, .int (iZ (y : Int)))]) jx jb d_Mod_describe_70 rfl jl (by decide) rfl (fun ls jl => ?_)
            refine lv_aload_n jx jb d_Mod_describe_71 rfl (lv_at jl 2 rfl) ?_
            refine va_get (D := D) (ci := 4) (v := .ref rp) (C := R_Mod) (T := F_Mod) (N := 14) jx jb jts i_Mod jown jK.1 jP 0 rfl rfl 7 (by decide) (jts _ fl_Mod_19) (fun _ h9 => h9) rfl d_Mod_describe_72 ?_
            refine lv_iload_n jx jb d_Mod_describe_75 rfl (lv_at jl 3 rfl) ?_
            refine z_iald jx jb jK.1 jP 1 0 rfl rfl y (by omega) d_Mod_describe_76 ?_
            refine z_if_ne (tgt := 141) jx jb d_Mod_describe_77 (by decide) ⟨by omega, by omega⟩ (fun hc77 => ?_) (fun hc77 => ?_)
            ·
              refine lv_iload_n jx jb d_Mod_describe_141 rfl (lv_at jl 3 rfl) ?_
              refine lv_iconst (v := iZ 1) jx jb d_Mod_describe_142 rfl ?_
              refine lv_iload_n jx jb d_Mod_describe_143 rfl (lv_at jl 0 rfl) ?_
              refine z_iadd jx jb d_Mod_describe_144 ?_
              refine z_iadd jx jb d_Mod_describe_145 ?_
              refine z_top ((y + 1 : Nat) : Int) (by omega) ?_
              refine lv_istore_n (lv' := [(2, .int (iZ ((y + 1 : Nat) : Int))), (3, .int (iZ 0)), (1, .int (iZ (R2 - (wgt (xp y))))), (0, .ref r)]) jx jb d_Mod_describe_146 rfl jl (by decide) rfl (fun ls jl => ?_)
              refine lv_goto (tgt := 33) jx jb d_Mod_describe_147 (by decide) ?_
              exact ih33 (y + 1 : Nat) (R2 - (wgt (xp y))) (V2 + numX R2 (xp y + 1).toNat * 2 ^ B2) (B2 + numN R2 (xp y + 1).toNat) xo1_54 (by omega) (by omega) (R_n hR2) (hu54) (by omega) (shR_n hC (by omega) hc77) _ _ (jP.sub [0, 1, 2] rfl) (jD.sub [0, 1, 2] (by decide) rfl) jS _ (lv_sub jl [3, 2, 0] rfl)
            ·
              have hjoin110 : ∀ (cz : Nat), (y + 1 ≤ y + 1 + cz ∧ y + 1 + cz ≤ 256 ∧ (∀ k, y + 1 ≤ k → k < y + 1 + cz → xp k = 0) ∧ (y + 1 + cz = 256 ∨ xp (y + 1 + cz) ≠ 0)) → ∀ (H : Heap) (locs : List Loc), va_P D classes [(r, .inr (4, [.ref ri, .int (iZ iL), .int (iZ go), .ref ro, .int (iZ oL), .ref rc, .int (iZ (o : Int)), .ref rp, .ref rs, .ref rd, .ref rk, .ref rh, .int (iZ ((B2 + numN R2 (xp y + 1).toNat : Nat) : Int)), .int (iZ bR)])), (rp, .inl (cI, 256, .inl (zA xp))), (ro, .inl (cI, 6000, .inl (zA xo1_54)))] H → va_D A [(r, .inr (4, [.ref ri, .int (iZ iL), .int (iZ go), .ref ro, .int (iZ oL), .ref rc, .int (iZ (o : Int)), .ref rp, .ref rs, .ref rd, .ref rk, .ref rh, .int (iZ ((B2 + numN R2 (xp y + 1).toNat : Nat) : Int)), .int (iZ bR)])), (rp, .inl (cI, 256, .inl (zA xp))), (ro, .inl (cI, 6000, .inl (zA xo1_54)))] → va_S A s.heap H locs → ∀ ls : Array Slot, lv_has ls 5 [(0, .ref r), (1, .int (iZ (R2 - wgt (xp y)))), (2, .int (iZ (y : Int))), (3, .int (iZ (cz : Int)))] → W p l e rm_M_describe s m args below meth c H locs 0 0 Q (F0 m 110 ls []) := by
                intro cz hbz H locs jP jD jS ls jl
                refine lv_iconst (v := iZ 0) jx jb d_Mod_describe_110 rfl ?_
                refine lv_istore (lv' := [(4, .int (iZ 0)), (0, .ref r), (1, .int (iZ (R2 - wgt (xp y)))), (2, .int (iZ (y : Int))), (3, .int (iZ (cz : Int)))]) jx jb d_Mod_describe_111 jl (by decide) rfl (fun ls jl => ?_)
                have hloop113 : ∀ (nF : Nat) (i : Nat) (x3 : Nat → Int), cz / 3 - i < nF → (i ≤ cz / 3) → (mO ((V2 + numX R2 (xp y + 1).toNat * 2 ^ B2) + (4 ^ i - 1) * 2 ^ (B2 + numN R2 (xp y + 1).toNat)) ((B2 + numN R2 (xp y + 1).toNat) + 2 * i) x3) → ∀ (H : Heap) (locs : List Loc), va_P D classes [(r, .inr (4, [.ref ri, .int (iZ iL), .int (iZ go), .ref ro, .int (iZ oL), .ref rc, .int (iZ (o : Int)), .ref rp, .ref rs, .ref rd, .ref rk, .ref rh, .int (iZ ((B2 + numN R2 (xp y + 1).toNat + 2 * i : Nat) : Int)), .int (iZ bR)])), (rp, .inl (cI, 256, .inl (zA xp))), (ro, .inl (cI, 6000, .inl (zA x3)))] H → va_D A [(r, .inr (4, [.ref ri, .int (iZ iL), .int (iZ go), .ref ro, .int (iZ oL), .ref rc, .int (iZ (o : Int)), .ref rp, .ref rs, .ref rd, .ref rk, .ref rh, .int (iZ ((B2 + numN R2 (xp y + 1).toNat + 2 * i : Nat) : Int)), .int (iZ bR)])), (rp, .inl (cI, 256, .inl (zA xp))), (ro, .inl (cI, 6000, .inl (zA x3)))] → va_S A s.heap H locs → ∀ ls : Array Slot, lv_has ls 5 [(0, .ref r), (1, .int (iZ (R2 - wgt (xp y)))), (2, .int (iZ (y : Int))), (3, .int (iZ (cz : Int))), (4, .int (iZ (i : Int)))] → W p l e rm_M_describe s m args below meth c H locs 0 0 Q (F0 m 113 ls []) := by
                  intro nF
                  induction nF with
                  | zero => intro i x3 hm; exact absurd hm (Nat.not_lt_zero _)
                  | succ nF ih113 =>
                    intro i x3 hm hi h3 H locs jP jD jS ls jl
                    refine lv_iload jx jb d_Mod_describe_113 (lv_at jl 4 rfl) ?_
                    refine lv_iload_n jx jb d_Mod_describe_115 rfl (lv_at jl 3 rfl) ?_
                    refine lv_iconst (v := iZ 3) jx jb d_Mod_describe_116 rfl ?_
                    refine z_idiv jx jb d_Mod_describe_117 (by omega) ?_
                    refine z_icmp_ge (tgt := 133) jx jb d_Mod_describe_118 (by decide) ⟨⟨by omega, by omega⟩, ⟨by omega, by omega⟩⟩ (fun hc118 => ?_) (fun hc118 => ?_)
                    ·
                      refine lv_aload_n jx jb d_Mod_describe_133 rfl (lv_at jl 0 rfl) ?_
                      refine lv_iload_n jx jb d_Mod_describe_134 rfl (lv_at jl 3 rfl) ?_
                      refine lv_iconst (v := iZ 3) jx jb d_Mod_describe_135 rfl ?_
                      refine z_irem jx jb d_Mod_describe_136 (by omega) ?_
                      refine z_top ((cz % 3 : Nat) : Int) (by omega) ?_
                      refine lv_iconst (v := iZ 2) jx jb d_Mod_describe_137 rfl ?_
                      refine z_backv (wr := [(rp, .inl (cI, 256, .inl (zA xp)))]) jP jD jS jA [0, 2] [1] rfl rfl (by decide) (by decide) (va_runV (As := [.int (iZ ((cz % 3 : Nat) : Int)), .int (iZ 2)]) (rest := []) ⟨jx, jb, jml, jown, jts⟩ (c_M_put l D cI cB cZ H.size r ri ro rc rp rs rd rk rh iL go oL o bR x3 ((V2 + numX R2 (xp y + 1).toNat * 2 ^ B2) + (4 ^ i - 1) * 2 ^ (B2 + numN R2 (xp y + 1).toNat)) (B2 + numN R2 (xp y + 1).toNat + 2 * i : Nat) (cz % 3 : Nat) 2 (h3) (by omega) (by decide) (by omega)) (zc_V 2 jts cd_Mod_put lk_Mod_83 im_Mod_put se_Mod_put in_Mod hd_Mod_put ⟨Nat.le_of_ble_eq_true rfl, Nat.le_of_ble_eq_true rfl⟩ rfl rfl) (z_preV jK jP jD [0, 2] (by decide) rfl rfl rfl rfl) rfl rfl jl.1 rfl (lv_room (Nat.le_of_ble_eq_true rfl)) d_Mod_describe_138 ⟨Nat.le_of_ble_eq_true rfl, Nat.le_of_ble_eq_true rfl⟩) (fun u138 H locs hu138 jP jD jS => ?_)
                      obtain ⟨xo1_138, rfl⟩ : ∃ z, z = u138 := ⟨_, rfl⟩
                      have jP : va_P D classes [(r, .inr (4, [.ref ri, .int (iZ iL), .int (iZ go), .ref ro, .int (iZ oL), .ref rc, .int (iZ (o : Int)), .ref rp, .ref rs, .ref rd, .ref rk, .ref rh, .int (iZ (((B2 + numN R2 (xp y + 1).toNat + 2 * i : Nat) + 2 : Nat) : Int)), .int (iZ bR)])), (rp, .inl (cI, 256, .inl (zA xp))), (ro, .inl (cI, 6000, .inl (zA xo1_138)))] H := jP.sub [1, 0, 2] rfl
                      have jD : va_D A [(r, .inr (4, [.ref ri, .int (iZ iL), .int (iZ go), .ref ro, .int (iZ oL), .ref rc, .int (iZ (o : Int)), .ref rp, .ref rs, .ref rd, .ref rk, .ref rh, .int (iZ (((B2 + numN R2 (xp y + 1).toNat + 2 * i : Nat) + 2 : Nat) : Int)), .int (iZ bR)])), (rp, .inl (cI, 256, .inl (zA xp))), (ro, .inl (cI, 6000, .inl (zA xo1_138)))] := jD.sub [1, 0, 2] (by decide) rfl
                      have hi3 : i = cz / 3 := by omega
                      rw [show (B2 + numN R2 (xp y + 1).toNat) + 2 * i + 2 = (B2 + numN R2 (xp y + 1).toNat) + zN (y + 1 + cz - (y + 1)) from by unfold zN; omega] at jP jD
                      refine lv_iload_n jx jb d_Mod_describe_141 rfl (lv_at jl 2 rfl) ?_
                      refine lv_iconst (v := iZ 1) jx jb d_Mod_describe_142 rfl ?_
                      refine lv_iload_n jx jb d_Mod_describe_143 rfl (lv_at jl 3 rfl) ?_
                      refine z_iadd jx jb d_Mod_describe_144 ?_
                      refine z_iadd jx jb d_Mod_describe_145 ?_
                      refine z_top ((y + 1 + cz : Nat) : Int) (by omega) ?_
                      refine lv_istore_n (lv' := [(2, .int (iZ ((y + 1 + cz : Nat) : Int))), (0, .ref r), (1, .int (iZ (R2 - wgt (xp y)))), (3, .int (iZ (cz : Int))), (4, .int (iZ (i : Int)))]) jx jb d_Mod_describe_146 rfl jl (by decide) rfl (fun ls jl => ?_)
                      refine lv_goto (tgt := 33) jx jb d_Mod_describe_147 (by decide) ?_
                      exact ih33 (y + 1 + cz) (R2 - wgt (xp y)) ((V2 + numX R2 (xp y + 1).toNat * 2 ^ B2) + zX (y + 1 + cz - (y + 1)) * 2 ^ (B2 + numN R2 (xp y + 1).toNat)) ((B2 + numN R2 (xp y + 1).toNat) + zN (y + 1 + cz - (y + 1))) xo1_138 (by omega) (hbz.2.1) (R_z hR2 hbz) (by rw [show y + 1 + cz - (y + 1) = cz by omega]; exact mO_ze (by omega) hu138) (by have q : zN (y + 1 + cz - (y + 1)) = 2 * ((y + 1 + cz - (y + 1)) / 3 + 1) := rfl; omega) (shR_z hC (by omega) hc77 hbz) _ _ (jP.sub [0, 1, 2] rfl) (jD.sub [0, 1, 2] (by decide) rfl) jS _ (lv_sub jl [1, 2, 0] rfl)
                    ·
                      refine lv_aload_n jx jb d_Mod_describe_121 rfl (lv_at jl 0 rfl) ?_
                      refine lv_iconst (v := iZ 3) jx jb d_Mod_describe_122 rfl ?_
                      refine lv_iconst (v := iZ 2) jx jb d_Mod_describe_123 rfl ?_
                      refine z_backv (wr := [(rp, .inl (cI, 256, .inl (zA xp)))]) jP jD jS jA [0, 2] [1] rfl rfl (by decide) (by decide) (va_runV (As := [.int (iZ 3), .int (iZ 2)]) (rest := []) ⟨jx, jb, jml, jown, jts⟩ (c_M_put l D cI cB cZ H.size r ri ro rc rp rs rd rk rh iL go oL o bR x3 ((V2 + numX R2 (xp y + 1).toNat * 2 ^ B2) + (4 ^ i - 1) * 2 ^ (B2 + numN R2 (xp y + 1).toNat)) (B2 + numN R2 (xp y + 1).toNat + 2 * i : Nat) 3 2 (h3) (by decide) (by decide) (by omega)) (zc_V 2 jts cd_Mod_put lk_Mod_83 im_Mod_put se_Mod_put in_Mod hd_Mod_put ⟨Nat.le_of_ble_eq_true rfl, Nat.le_of_ble_eq_true rfl⟩ rfl rfl) (z_preV jK jP jD [0, 2] (by decide) rfl rfl rfl rfl) rfl rfl jl.1 rfl (lv_room (Nat.le_of_ble_eq_true rfl)) d_Mod_describe_124 ⟨Nat.le_of_ble_eq_true rfl, Nat.le_of_ble_eq_true rfl⟩) (fun u124 H locs hu124 jP jD jS => ?_)
                      obtain ⟨xo1_124, rfl⟩ : ∃ z, z = u124 := ⟨_, rfl⟩
                      have jP : va_P D classes [(r, .inr (4, [.ref ri, .int (iZ iL), .int (iZ go), .ref ro, .int (iZ oL), .ref rc, .int (iZ (o : Int)), .ref rp, .ref rs, .ref rd, .ref rk, .ref rh, .int (iZ (((B2 + numN R2 (xp y + 1).toNat + 2 * i : Nat) + 2 : Nat) : Int)), .int (iZ bR)])), (rp, .inl (cI, 256, .inl (zA xp))), (ro, .inl (cI, 6000, .inl (zA xo1_124)))] H := jP.sub [1, 0, 2] rfl
                      have jD : va_D A [(r, .inr (4, [.ref ri, .int (iZ iL), .int (iZ go), .ref ro, .int (iZ oL), .ref rc, .int (iZ (o : Int)), .ref rp, .ref rs, .ref rd, .ref rk, .ref rh, .int (iZ (((B2 + numN R2 (xp y + 1).toNat + 2 * i : Nat) + 2 : Nat) : Int)), .int (iZ bR)])), (rp, .inl (cI, 256, .inl (zA xp))), (ro, .inl (cI, 6000, .inl (zA xo1_124)))] := jD.sub [1, 0, 2] (by decide) rfl
                      refine lv_iinc (v := iZ ((i : Int) + 1)) (lv' := [(4, .int (iZ ((i : Int) + 1))), (0, .ref r), (1, .int (iZ (R2 - wgt (xp y)))), (2, .int (iZ (y : Int))), (3, .int (iZ (cz : Int)))]) jx jb d_Mod_describe_127 jl (k := 4) rfl (iZ_add _ _) (by decide) rfl (fun ls jl => ?_)
                      refine lv_goto (tgt := 113) jx jb d_Mod_describe_130 (by decide) ?_
                      exact ih113 (i + 1) xo1_124 (by omega) (by first | assumption | omega) (mO_z hu124) _ _ (jP.sub [0, 1, 2] rfl) (jD.sub [0, 1, 2] (by decide) rfl) jS _ (lv_sub jl [1, 2, 3, 4, 0] rfl)
                exact hloop113 ((cz / 3 - 0) + 1) 0 xo1_54 (Nat.lt_succ_self _) (by first | assumption | omega) (mO_z0 hu54) _ _ (jP.sub [0, 1, 2] rfl) (jD.sub [0, 1, 2] (by decide) rfl) jS _ (lv_sub jl [1, 2, 3, 4, 0] rfl)
              have hloop80 : ∀ (nF : Nat) (cz : Nat), 256 - cz < nF → (y + 1 + cz ≤ 256) → (∀ k, y + 1 ≤ k → k < y + 1 + cz → xp k = 0) → ∀ (H : Heap) (locs : List Loc), va_P D classes [(r, .inr (4, [.ref ri, .int (iZ iL), .int (iZ go), .ref ro, .int (iZ oL), .ref rc, .int (iZ (o : Int)), .ref rp, .ref rs, .ref rd, .ref rk, .ref rh, .int (iZ ((B2 + numN R2 (xp y + 1).toNat : Nat) : Int)), .int (iZ bR)])), (rp, .inl (cI, 256, .inl (zA xp))), (ro, .inl (cI, 6000, .inl (zA xo1_54)))] H → va_D A [(r, .inr (4, [.ref ri, .int (iZ iL), .int (iZ go), .ref ro, .int (iZ oL), .ref rc, .int (iZ (o : Int)), .ref rp, .ref rs, .ref rd, .ref rk, .ref rh, .int (iZ ((B2 + numN R2 (xp y + 1).toNat : Nat) : Int)), .int (iZ bR)])), (rp, .inl (cI, 256, .inl (zA xp))), (ro, .inl (cI, 6000, .inl (zA xo1_54)))] → va_S A s.heap H locs → ∀ ls : Array Slot, lv_has ls 5 [(0, .ref r), (1, .int (iZ (R2 - wgt (xp y)))), (2, .int (iZ (y : Int))), (3, .int (iZ (cz : Int)))] → W p l e rm_M_describe s m args below meth c H locs 0 0 Q (F0 m 80 ls []) := by
                intro nF
                induction nF with
                | zero => intro cz hm; exact absurd hm (Nat.not_lt_zero _)
                | succ nF ih80 =>
                  intro cz hm hcz hz0 H locs jP jD jS ls jl
                  refine lv_iload_n jx jb d_Mod_describe_80 rfl (lv_at jl 2 rfl) ?_
                  refine lv_iconst (v := iZ 1) jx jb d_Mod_describe_81 rfl ?_
                  refine z_iadd jx jb d_Mod_describe_82 ?_
                  refine z_top ((y + 1 : Nat) : Int) (by omega) ?_
                  refine lv_iload_n jx jb d_Mod_describe_83 rfl (lv_at jl 3 rfl) ?_
                  refine z_iadd jx jb d_Mod_describe_84 ?_
                  refine z_top ((y + 1 + cz : Nat) : Int) (by omega) ?_
                  refine lv_sipush (v := iZ 256) jx jb d_Mod_describe_85 (by decide) ?_
                  refine z_icmp_ge (tgt := 110) jx jb d_Mod_describe_88 (by decide) ⟨⟨by omega, by omega⟩, ⟨by decide, by decide⟩⟩ (fun hc88 => ?_) (fun hc88 => ?_)
                  ·
                    exact hjoin110 cz (⟨by omega, hcz, hz0, by omega⟩) _ _ (jP.sub [0, 1, 2] rfl) (jD.sub [0, 1, 2] (by decide) rfl) jS _ (lv_sub jl [0, 1, 2, 3] rfl)
                  ·
                    refine lv_aload_n jx jb d_Mod_describe_91 rfl (lv_at jl 0 rfl) ?_
                    refine va_get (D := D) (ci := 4) (v := .ref rp) (C := R_Mod) (T := F_Mod) (N := 14) jx jb jts i_Mod jown jK.1 jP 0 rfl rfl 7 (by decide) (jts _ fl_Mod_19) (fun _ h9 => h9) rfl d_Mod_describe_92 ?_
                    refine lv_iload_n jx jb d_Mod_describe_95 rfl (lv_at jl 2 rfl) ?_
                    refine lv_iconst (v := iZ 1) jx jb d_Mod_describe_96 rfl ?_
                    refine z_iadd jx jb d_Mod_describe_97 ?_
                    refine z_top ((y + 1 : Nat) : Int) (by omega) ?_
                    refine lv_iload_n jx jb d_Mod_describe_98 rfl (lv_at jl 3 rfl) ?_
                    refine z_iadd jx jb d_Mod_describe_99 ?_
                    refine z_top ((y + 1 + cz : Nat) : Int) (by omega) ?_
                    refine z_iald jx jb jK.1 jP 1 0 rfl rfl (y + 1 + cz : Nat) (by omega) d_Mod_describe_100 ?_
                    have hpz := hpr (y + 1 + cz) (by omega)
                    refine z_if_ne (tgt := 110) jx jb d_Mod_describe_101 (by decide) ⟨by omega, by omega⟩ (fun hc101 => ?_) (fun hc101 => ?_)
                    ·
                      exact hjoin110 cz (⟨by omega, hcz, hz0, by omega⟩) _ _ (jP.sub [0, 1, 2] rfl) (jD.sub [0, 1, 2] (by decide) rfl) jS _ (lv_sub jl [0, 1, 2, 3] rfl)
                    ·
                      refine lv_iinc (v := iZ ((cz : Int) + 1)) (lv' := [(3, .int (iZ ((cz : Int) + 1))), (0, .ref r), (1, .int (iZ (R2 - wgt (xp y)))), (2, .int (iZ (y : Int)))]) jx jb d_Mod_describe_104 jl (k := 3) rfl (iZ_add _ _) (by decide) rfl (fun ls jl => ?_)
                      refine lv_goto (tgt := 80) jx jb d_Mod_describe_107 (by decide) ?_
                      exact ih80 (cz + 1) (by omega) (by first | assumption | omega) (zr_step hz0 hc101) _ _ (jP.sub [0, 1, 2] rfl) (jD.sub [0, 1, 2] (by decide) rfl) jS _ (lv_sub jl [1, 2, 3, 0] rfl)
              exact hloop80 ((256 - 0) + 1) 0 (Nat.lt_succ_self _) (by first | assumption | omega) (fun k q1 q2 => absurd q1 (by omega)) _ _ (jP.sub [0, 1, 2] rfl) (jD.sub [0, 1, 2] (by decide) rfl) jS _ (lv_sub jl [2, 1, 3, 0] rfl)
    exact hloop33 ((256 - 0) + 1) 0 (2 ^ o) (o - 5) 4 xo1_21 (Nat.lt_succ_self _) (by first | assumption | omega) ((Int.sub_zero _).symm) (mO_first hu21) (by first | assumption | omega) (dC_0) _ _ (jP.sub [0, 1, 2] rfl) (jD.sub [0, 1, 2] (by decide) rfl) jS _ (lv_sub jl [2, 1, 0] rfl)
  ·
    refine lv_iconst (v := iZ (-1)) jx jb d_Mod_describe_7 rfl ?_
    exact jret _ _ _ (oL, bP, xo) _ _ (Or.inl rfl) (Or.inl ⟨rfl, by omega, rfl, rfl⟩) (jP.sub [0, 1, 2] rfl) (jD.sub [0, 1, 2] (by decide) rfl) jS d_Mod_describe_8
end
section
/-! spreading the symbols over the cells -/
def stp (o : Nat) : Nat := 2 ^ o / 2 + 2 ^ o / 8 + 3
def cel (o k : Nat) : Nat := k * stp o % 2 ^ o
theorem cel_lt (o k : Nat) : cel o k < 2 ^ o := Nat.mod_lt _ (Nat.pow_pos (by decide))
theorem cel_0 (o : Nat) : cel o 0 = 0 := by unfold cel; rw [Nat.zero_mul, Nat.zero_mod]
theorem cel_s (o k : Nat) : (cel o k + stp o) % 2 ^ o = cel o (k + 1) := by
  unfold cel
  rw [Nat.mod_add_mod, Nat.add_mul, Nat.one_mul]
theorem cel_i (o k : Nat) : ((cel o k : Int) + (stp o : Int)) % 2 ^ o = (cel o (k + 1) : Int) := by
  rw [← cel_s, Int.natCast_emod, p2n, Int.natCast_add]
theorem stp_i {o : Nat} : (2 : Int) ^ o / 2 + 2 ^ o / 8 + 3 = (stp o : Int) := by
  unfold stp
  rw [Int.natCast_add, Int.natCast_add, Int.natCast_ediv, Int.natCast_ediv, p2n]
  rfl
/-- the symbols with -1 points, from the highest cell down: the lowest cell taken, the table -/
def sngl (pt : Nat → Int) (o : Nat) (t : Nat → Int) : Nat → Int × (Nat → Int)
  | 0 => (2 ^ o, t)
  | s + 1 => if pt s = -1 then ((sngl pt o t s).1 - 1, zu (sngl pt o t s).2 ((sngl pt o t s).1 - 1).toNat s) else sngl pt o t s
theorem sngl_n {pt t t2 : Nat → Int} {o s : Nat} {E : Int} (h : sngl pt o t s = (E, t2)) (hs : pt s ≠ -1) : sngl pt o t (s + 1) = (E, t2) := by
  show (if pt s = -1 then _ else _) = _
  rw [if_neg hs, h]
theorem sngl_s {pt t t2 : Nat → Int} {o s : Nat} {E : Int} (h : sngl pt o t s = (E, t2)) (hs : pt s = -1) : sngl pt o t (s + 1) = (E - 1, zu t2 (E - 1).toNat s) := by
  show (if pt s = -1 then _ else _) = _
  rw [if_pos hs, h]
theorem sngl_b {pt t : Nat → Int} {o : Nat} (hp : ∀ k, k < 256 → -1 ≤ pt k ∧ pt k ≤ 65536) : ∀ {s : Nat} {E : Int} {t2 : Nat → Int}, s ≤ 256 → sngl pt o t s = (E, t2) → 2 ^ o - cum pt s ≤ E ∧ E ≤ 2 ^ o
  | 0, E, t2, _, h => by
    have : (2 : Int) ^ o = E := congrArg Prod.fst h
    subst this
    exact ⟨by show (2 : Int) ^ o - 0 ≤ 2 ^ o; omega, Int.le_refl _⟩
  | s + 1, E, t2, hs, h => by
    have ih := sngl_b hp (s := s) (E := (sngl pt o t s).1) (t2 := (sngl pt o t s).2) (by omega) rfl
    have hw := wgt_b (hp s (by omega))
    show 2 ^ o - (cum pt s + wgt (pt s)) ≤ E ∧ _
    by_cases e : pt s = -1
    · rw [sngl_s (E := (sngl pt o t s).1) (t2 := (sngl pt o t s).2) rfl e] at h
      have h1 : (sngl pt o t s).1 - 1 = E := congrArg Prod.fst h
      have hw1 : wgt (pt s) = 1 := if_pos e
      omega
    · rw [sngl_n (E := (sngl pt o t s).1) (t2 := (sngl pt o t s).2) rfl e] at h
      have h1 : (sngl pt o t s).1 = E := congrArg Prod.fst h
      omega
/-- the next symbol that still wants cells -/
def adv (pt : Nat → Int) : Nat → Nat → Int → Nat × Int
  | 0, s, l => (s, l)
  | n + 1, s, l => if l ≤ 0 ∧ s < 255 then adv pt n (s + 1) (pt (s + 1)) else (s, l)
def advR (pt : Nat → Int) (T : Nat × Int) (s : Nat) (l : Int) : Prop := ∃ n : Nat, 256 ≤ n + s ∧ adv pt n s l = T
theorem advR_0 {pt : Nat → Int} {s : Nat} {l : Int} : advR pt (adv pt 256 s l) s l := ⟨256, by omega, rfl⟩
theorem advR_s {pt : Nat → Int} {T : Nat × Int} {s : Nat} {l : Int} (h : advR pt T s l) (hc : l ≤ 0 ∧ s < 255) : advR pt T (s + 1) (pt (s + 1)) := by
  obtain ⟨n, h1, h2⟩ := h
  cases n with
  | zero => omega
  | succ n =>
    refine ⟨n, by omega, ?_⟩
    rw [← h2]
    exact (if_pos hc).symm
theorem advR_e {pt : Nat → Int} {T : Nat × Int} {s : Nat} {l : Int} (h : advR pt T s l) (hc : ¬ (l ≤ 0 ∧ s < 255)) : T = (s, l) := by
  obtain ⟨n, h1, h2⟩ := h
  rw [← h2]
  cases n with
  | zero => rfl
  | succ n => exact if_neg hc
def sprd (pt : Nat → Int) (o : Nat) (e : Int) (t : Nat → Int) : Nat → (Nat → Int) × Nat × Int
  | 0 => (t, 0, pt 0)
  | k + 1 => if (cel o k : Int) < e then (zu (sprd pt o e t k).1 (cel o k) (adv pt 256 (sprd pt o e t k).2.1 (sprd pt o e t k).2.2).1, (adv pt 256 (sprd pt o e t k).2.1 (sprd pt o e t k).2.2).1, (adv pt 256 (sprd pt o e t k).2.1 (sprd pt o e t k).2.2).2 - 1) else sprd pt o e t k
theorem sprd_n {pt t t2 : Nat → Int} {o k s : Nat} {e l : Int} (h : sprd pt o e t k = (t2, s, l)) (hc : e ≤ (cel o k : Int)) : sprd pt o e t (k + 1) = (t2, s, l) := by
  show (if (cel o k : Int) < e then _ else _) = _
  rw [if_neg (by omega), h]
theorem sprd_s {pt t t2 : Nat → Int} {o k s s2 : Nat} {e l l2 : Int} (h : sprd pt o e t k = (t2, s, l)) (hc : (cel o k : Int) < e) (ha : adv pt 256 s l = (s2, l2)) : sprd pt o e t (k + 1) = (zu t2 (cel o k) s2, s2, l2 - 1) := by
  show (if (cel o k : Int) < e then _ else _) = _
  rw [if_pos hc, h]
  show (zu t2 (cel o k) (adv pt 256 s l).1, (adv pt 256 s l).1, (adv pt 256 s l).2 - 1) = _
  rw [ha]
/-- the class's symbol and what is left of it: before the first one it stands at -1 -/
def stC (pt : Nat → Int) (T : Nat × Int) (a b : Int) : Prop := (a = -1 ∧ b = 0 ∧ advR pt T 0 (pt 0)) ∨ ∃ s : Nat, a = (s : Int) ∧ s ≤ 255 ∧ advR pt T s b
theorem stC_s {pt : Nat → Int} {T : Nat × Int} {a b : Int} (h : stC pt T a b) (hb : b ≤ 0) (ha : a < 255) : stC pt T (a + 1) (pt (a + 1).toNat) := by
  rcases h with ⟨rfl, rfl, h⟩ | ⟨s, rfl, h1, h⟩
  · exact Or.inr ⟨0, by omega, by omega, h⟩
  · refine Or.inr ⟨s + 1, by omega, by omega, ?_⟩
    rw [show ((s : Int) + 1).toNat = s + 1 by omega]
    exact advR_s h ⟨hb, by omega⟩
theorem stC_e {pt : Nat → Int} {T : Nat × Int} {a b : Int} (h : stC pt T a b) (hc : ¬ (b ≤ 0 ∧ a < 255)) : ∃ s : Nat, a = (s : Int) ∧ s ≤ 255 ∧ T = (s, b) := by
  rcases h with ⟨rfl, rfl, h⟩ | ⟨s, rfl, h1, h⟩
  · omega
  · exact ⟨s, rfl, h1, advR_e h (by omega)⟩
theorem stC_lo {pt : Nat → Int} {T : Nat × Int} {a b : Int} (h : stC pt T a b) : -1 ≤ a ∧ a ≤ 255 := by
  rcases h with ⟨rfl, rfl, h⟩ | ⟨s, rfl, h1, h⟩ <;> omega
/-- between two cells -/
def stD (pt : Nat → Int) (a b : Int) (s : Nat) (l : Int) : Prop := (a = -1 ∧ b = 0 ∧ s = 0 ∧ l = pt 0) ∨ (a = (s : Int) ∧ s ≤ 255 ∧ b = l)
theorem stD_C {pt : Nat → Int} {a b l : Int} {s : Nat} (h : stD pt a b s l) : stC pt (adv pt 256 s l) a b := by
  rcases h with ⟨rfl, rfl, rfl, rfl⟩ | ⟨rfl, h1, rfl⟩
  · exact Or.inl ⟨rfl, rfl, advR_0⟩
  · exact Or.inr ⟨s, rfl, h1, advR_0⟩
/-- the table of a share's cells -/
def tbE (pt : Nat → Int) (o : Nat) (t : Nat → Int) : Int := (sngl pt o t 256).1
def tbT (pt : Nat → Int) (o : Nat) (t : Nat → Int) : Nat → Int := (sprd pt o (sngl pt o t 256).1 (sngl pt o t 256).2 (2 ^ o)).1
/-! numbers of cells -/
def nmb (gP gS : Nat → Int) (k : Nat) : Int := wgt (gP (gS k).toNat) + cntS gS (gS k) k
def numT4 (gP gS : Nat → Int) (o n : Nat) (gB gA gC : Nat → Int) : Prop := ∀ k, k < n → gB k = (o : Int) - (zlog (nmb gP gS k) : Int) ∧ gA k = nmb gP gS k * 2 ^ (o - zlog (nmb gP gS k)) - 2 ^ o ∧ gC (cum gP (gS k).toNat + cntS gS (gS k) k).toNat = k
theorem numT4_0 {gP gS gB gA gC : Nat → Int} {o : Nat} : numT4 gP gS o 0 gB gA gC := fun k h => absurd h (by omega)
theorem cnt_mono {g : Nat → Int} {v : Int} {a : Nat} : ∀ {b : Nat}, a ≤ b → cntS g v a ≤ cntS g v b
  | 0, h => by rw [show a = 0 by omega]; exact Int.le_refl _
  | b + 1, h => by
    by_cases e : a = b + 1
    · rw [e]; exact Int.le_refl _
    · have := cnt_mono (g := g) (v := v) (a := a) (b := b) (by omega)
      show _ ≤ cntS g v b + (if g b = v then 1 else 0)
      split <;> omega
theorem cnt_lt {g : Nat → Int} {v : Int} {k n : Nat} (h : g k = v) (hk : k < n) : cntS g v k < cntS g v n := by
  have h1 := cntS_s (n := k) h
  have h2 := cnt_mono (g := g) (v := v) (a := k + 1) (b := n) (by omega)
  omega
theorem numN_s {gP gS n2 : Nat → Int} {k v : Nat} (h : ∀ s : Nat, s < 256 → n2 s = wgt (gP s) + cntS gS s k) (hv : gS k = (v : Int)) (hv6 : v < 256) : ∀ s : Nat, s < 256 → zu n2 v (n2 v + 1) s = wgt (gP s) + cntS gS s (k + 1) := by
  intro s hs
  by_cases e : s = v
  · subst e
    rw [zu_s, cntS_s hv, h s hs]
    omega
  · rw [zu_n e, cntS_n (by omega), h s hs]
/-- two cells have two slots -/
theorem slot_apart {gP gS : Nat → Int} {N k j : Nat} (hp : ∀ k, k < 256 → -1 ≤ gP k ∧ gP k ≤ 65536) (hgs : ∀ k : Nat, k < N → 0 ≤ gS k ∧ gS k < 256) (hcn : ∀ s : Nat, s < 256 → cntS gS s N ≤ wgt (gP s)) (hk : k < N) (hj : j < k) : cum gP (gS j).toNat + cntS gS (gS j) j ≠ cum gP (gS k).toNat + cntS gS (gS k) k := by
  have a1 := hgs k hk
  have a2 := hgs j (by omega)
  have b1 := cntS_lo gS (gS k) k
  have b2 := cntS_lo gS (gS j) j
  have c1 := cnt_lt (g := gS) (v := gS k) rfl hk
  have c2 := cnt_lt (g := gS) (v := gS j) rfl (show j < N by omega)
  have d1 := hcn (gS k).toNat (by omega)
  have d2 := hcn (gS j).toNat (by omega)
  rw [show (((gS k).toNat : Nat) : Int) = gS k by omega] at d1
  rw [show (((gS j).toNat : Nat) : Int) = gS j by omega] at d2
  rcases (by omega : gS j = gS k ∨ (gS j).toNat < (gS k).toNat ∨ (gS k).toNat < (gS j).toNat) with e | e | e
  · have c3 := cnt_lt (g := gS) (v := gS k) e hj
    rw [e]
    omega
  · have m := cum_mono hp (a := (gS j).toNat + 1) (b := (gS k).toNat) (by omega) (by omega)
    have m2 : cum gP ((gS j).toNat + 1) = cum gP (gS j).toNat + wgt (gP (gS j).toNat) := rfl
    omega
  · have m := cum_mono hp (a := (gS k).toNat + 1) (b := (gS j).toNat) (by omega) (by omega)
    have m2 : cum gP ((gS k).toNat + 1) = cum gP (gS k).toNat + wgt (gP (gS k).toNat) := rfl
    omega
theorem numT4_s {gP gS gB gA gC gF : Nat → Int} {o k v : Nat} (h : numT4 gP gS o k gB gA gC) (hp : ∀ k, k < 256 → -1 ≤ gP k ∧ gP k ≤ 65536) (_ : cum gP 256 = 2 ^ o) (hgs : ∀ k : Nat, (k : Int) < 2 ^ o → 0 ≤ gS k ∧ gS k < 256) (hcn : ∀ s : Nat, s < 256 → cntS gS s (2 ^ o) ≤ wgt (gP s)) (hk : (k : Int) < 2 ^ o) (hv : gS k = (v : Int)) (hF : ∀ k, k < 256 → gF k = cum gP k) :
    numT4 gP gS o (k + 1) (zu gB ((k : Int)).toNat ((o : Int) - (zlog (wgt (gP v) + cntS gS v k) : Int))) (zu gA ((k : Int)).toNat ((wgt (gP v) + cntS gS v k) * 2 ^ (o - zlog (wgt (gP v) + cntS gS v k)) - 2 ^ o)) (zu gC (gF (gS k).toNat + (wgt (gP v) + cntS gS v k) - wgt (gP (gS k).toNat)).toNat (k : Int)) := by
  have hpn := p2n o
  have hgk := hgs k hk
  have hvn : (gS k).toNat = v := by omega
  have hn : nmb gP gS k = wgt (gP v) + cntS gS v k := by unfold nmb; rw [hvn, hv]
  have hsl : gF (gS k).toNat + (wgt (gP v) + cntS gS v k) - wgt (gP (gS k).toNat) = cum gP (gS k).toNat + cntS gS (gS k) k := by
    rw [hvn, hF v (by omega), hv]
    omega
  have hsl0 : 0 ≤ cum gP (gS k).toNat + cntS gS (gS k) k := by
    have q1 := cum_lo hp (b := (gS k).toNat) (by omega)
    have q2 := cntS_lo gS (gS k) k
    omega
  rw [Int.toNat_natCast, hsl, ← hn]
  intro j hj
  by_cases e : j = k
  · subst e
    rw [zu_s, zu_s, zu_s]
    exact ⟨rfl, rfl, rfl⟩
  · have hjk : j < k := by omega
    have hne := slot_apart (N := 2 ^ o) hp (fun k hk => hgs k (by omega)) hcn (show k < 2 ^ o by omega) hjk
    have hj0 : 0 ≤ cum gP (gS j).toNat + cntS gS (gS j) j := by
      have q0 := hgs j (by omega)
      have q1 := cum_lo hp (b := (gS j).toNat) (by omega)
      have q2 := cntS_lo gS (gS j) j
      omega
    rw [zu_n e, zu_n e, zu_n (by omega)]
    exact h j hjk
end
section
theorem cd_Share_giveNumber : Cond.code y_Share_giveNumber b_Share_giveNumber 5 none ∈ zT := zT_of (List.mem_of_getElem? (i := 290) (by decide +kernel)) rfl
theorem hd_Share_giveNumber : y_Share_giveNumber.cls ≠ "java/lang/invoke/MethodHandle" ∧ y_Share_giveNumber.cls ≠ "java/lang/invoke/VarHandle" ∧ (parseMethodDescriptor y_Share_giveNumber.desc).map (fun d => d.parameters.length) = some 3 := by decide +kernel
theorem lk_Share_79 : Cond.methodLink R_Share 79 y_Share_giveNumber ∈ zT := zT_of (List.mem_of_getElem? (i := 287) (by decide +kernel)) rfl
theorem im_Share_giveNumber : Cond.instanceMethod y_Share_giveNumber ∈ zT := zT_of (List.mem_of_getElem? (i := 289) (by decide +kernel)) rfl
theorem se_Share_giveNumber : Cond.selects R_Share y_Share_giveNumber y_Share_giveNumber ∈ zT := zT_of (List.mem_of_getElem? (i := 8) (by decide +kernel)) rfl
theorem d_Share_spreadSingles_0 : decode b_Share_spreadSingles 0 = .ok (.aload_n 0, 1) := by decide +kernel
theorem d_Share_spreadSingles_1 : decode b_Share_spreadSingles 1 = .ok (.invokevirtual 41, 3) := by decide +kernel
theorem d_Share_spreadSingles_4 : decode b_Share_spreadSingles 4 = .ok (.istore_n 1, 1) := by decide +kernel
theorem d_Share_spreadSingles_5 : decode b_Share_spreadSingles 5 = .ok (.iconst 0, 1) := by decide +kernel
theorem d_Share_spreadSingles_6 : decode b_Share_spreadSingles 6 = .ok (.istore_n 2, 1) := by decide +kernel
theorem d_Share_spreadSingles_7 : decode b_Share_spreadSingles 7 = .ok (.iload_n 2, 1) := by decide +kernel
theorem d_Share_spreadSingles_8 : decode b_Share_spreadSingles 8 = .ok (.sipush 256, 3) := by decide +kernel
theorem d_Share_spreadSingles_11 : decode b_Share_spreadSingles 11 = .ok (.if_icmp .ge 39, 3) := by decide +kernel
theorem d_Share_spreadSingles_14 : decode b_Share_spreadSingles 14 = .ok (.aload_n 0, 1) := by decide +kernel
theorem d_Share_spreadSingles_15 : decode b_Share_spreadSingles 15 = .ok (.getfield 9, 3) := by decide +kernel
theorem d_Share_spreadSingles_18 : decode b_Share_spreadSingles 18 = .ok (.iload_n 2, 1) := by decide +kernel
theorem d_Share_spreadSingles_19 : decode b_Share_spreadSingles 19 = .ok (.iaload, 1) := by decide +kernel
theorem d_Share_spreadSingles_20 : decode b_Share_spreadSingles 20 = .ok (.iconst (-1), 1) := by decide +kernel
theorem d_Share_spreadSingles_21 : decode b_Share_spreadSingles 21 = .ok (.if_icmp .ne 23, 3) := by decide +kernel
theorem d_Share_spreadSingles_24 : decode b_Share_spreadSingles 24 = .ok (.aload_n 0, 1) := by decide +kernel
theorem d_Share_spreadSingles_25 : decode b_Share_spreadSingles 25 = .ok (.iload_n 1, 1) := by decide +kernel
theorem d_Share_spreadSingles_26 : decode b_Share_spreadSingles 26 = .ok (.iconst 1, 1) := by decide +kernel
theorem d_Share_spreadSingles_27 : decode b_Share_spreadSingles 27 = .ok (.isub, 1) := by decide +kernel
theorem d_Share_spreadSingles_28 : decode b_Share_spreadSingles 28 = .ok (.invokevirtual 56, 3) := by decide +kernel
theorem d_Share_spreadSingles_31 : decode b_Share_spreadSingles 31 = .ok (.ifCond .eq 13, 3) := by decide +kernel
theorem d_Share_spreadSingles_34 : decode b_Share_spreadSingles 34 = .ok (.iinc 1 (-1), 3) := by decide +kernel
theorem d_Share_spreadSingles_37 : decode b_Share_spreadSingles 37 = .ok (.aload_n 0, 1) := by decide +kernel
theorem d_Share_spreadSingles_38 : decode b_Share_spreadSingles 38 = .ok (.getfield 15, 3) := by decide +kernel
theorem d_Share_spreadSingles_41 : decode b_Share_spreadSingles 41 = .ok (.iload_n 1, 1) := by decide +kernel
theorem d_Share_spreadSingles_42 : decode b_Share_spreadSingles 42 = .ok (.iload_n 2, 1) := by decide +kernel
theorem d_Share_spreadSingles_43 : decode b_Share_spreadSingles 43 = .ok (.iastore, 1) := by decide +kernel
theorem d_Share_spreadSingles_44 : decode b_Share_spreadSingles 44 = .ok (.iinc 2 1, 3) := by decide +kernel
theorem d_Share_spreadSingles_47 : decode b_Share_spreadSingles 47 = .ok (.goto (-40), 3) := by decide +kernel
theorem d_Share_spreadSingles_50 : decode b_Share_spreadSingles 50 = .ok (.iload_n 1, 1) := by decide +kernel
theorem d_Share_spreadSingles_51 : decode b_Share_spreadSingles 51 = .ok (.ireturn, 1) := by decide +kernel
theorem d_Share_spreadOthers_0 : decode b_Share_spreadOthers 0 = .ok (.aload_n 0, 1) := by decide +kernel
theorem d_Share_spreadOthers_1 : decode b_Share_spreadOthers 1 = .ok (.invokevirtual 41, 3) := by decide +kernel
theorem d_Share_spreadOthers_4 : decode b_Share_spreadOthers 4 = .ok (.istore_n 2, 1) := by decide +kernel
theorem d_Share_spreadOthers_5 : decode b_Share_spreadOthers 5 = .ok (.iload_n 2, 1) := by decide +kernel
theorem d_Share_spreadOthers_6 : decode b_Share_spreadOthers 6 = .ok (.iconst 1, 1) := by decide +kernel
theorem d_Share_spreadOthers_7 : decode b_Share_spreadOthers 7 = .ok (.ishr, 1) := by decide +kernel
theorem d_Share_spreadOthers_8 : decode b_Share_spreadOthers 8 = .ok (.iload_n 2, 1) := by decide +kernel
theorem d_Share_spreadOthers_9 : decode b_Share_spreadOthers 9 = .ok (.iconst 3, 1) := by decide +kernel
theorem d_Share_spreadOthers_10 : decode b_Share_spreadOthers 10 = .ok (.ishr, 1) := by decide +kernel
theorem d_Share_spreadOthers_11 : decode b_Share_spreadOthers 11 = .ok (.iadd, 1) := by decide +kernel
theorem d_Share_spreadOthers_12 : decode b_Share_spreadOthers 12 = .ok (.iconst 3, 1) := by decide +kernel
theorem d_Share_spreadOthers_13 : decode b_Share_spreadOthers 13 = .ok (.iadd, 1) := by decide +kernel
theorem d_Share_spreadOthers_14 : decode b_Share_spreadOthers 14 = .ok (.istore_n 3, 1) := by decide +kernel
theorem d_Share_spreadOthers_15 : decode b_Share_spreadOthers 15 = .ok (.iconst (-1), 1) := by decide +kernel
theorem d_Share_spreadOthers_16 : decode b_Share_spreadOthers 16 = .ok (.istore 4, 2) := by decide +kernel
theorem d_Share_spreadOthers_18 : decode b_Share_spreadOthers 18 = .ok (.iconst 0, 1) := by decide +kernel
theorem d_Share_spreadOthers_19 : decode b_Share_spreadOthers 19 = .ok (.istore 5, 2) := by decide +kernel
theorem d_Share_spreadOthers_21 : decode b_Share_spreadOthers 21 = .ok (.iconst 0, 1) := by decide +kernel
theorem d_Share_spreadOthers_22 : decode b_Share_spreadOthers 22 = .ok (.istore 6, 2) := by decide +kernel
theorem d_Share_spreadOthers_24 : decode b_Share_spreadOthers 24 = .ok (.iconst 0, 1) := by decide +kernel
theorem d_Share_spreadOthers_25 : decode b_Share_spreadOthers 25 = .ok (.istore 7, 2) := by decide +kernel
theorem d_Share_spreadOthers_27 : decode b_Share_spreadOthers 27 = .ok (.iload 7, 2) := by decide +kernel
theorem d_Share_spreadOthers_29 : decode b_Share_spreadOthers 29 = .ok (.iload_n 2, 1) := by decide +kernel
theorem d_Share_spreadOthers_30 : decode b_Share_spreadOthers 30 = .ok (.if_icmp .ge 74, 3) := by decide +kernel
theorem d_Share_spreadOthers_33 : decode b_Share_spreadOthers 33 = .ok (.iload 6, 2) := by decide +kernel
theorem d_Share_spreadOthers_35 : decode b_Share_spreadOthers 35 = .ok (.iload_n 1, 1) := by decide +kernel
theorem d_Share_spreadOthers_36 : decode b_Share_spreadOthers 36 = .ok (.if_icmp .ge 52, 3) := by decide +kernel
theorem d_Share_spreadOthers_39 : decode b_Share_spreadOthers 39 = .ok (.aload_n 0, 1) := by decide +kernel
theorem d_Share_spreadOthers_40 : decode b_Share_spreadOthers 40 = .ok (.iload 6, 2) := by decide +kernel
theorem d_Share_spreadOthers_42 : decode b_Share_spreadOthers 42 = .ok (.invokevirtual 56, 3) := by decide +kernel
theorem d_Share_spreadOthers_45 : decode b_Share_spreadOthers 45 = .ok (.ifCond .eq 43, 3) := by decide +kernel
theorem d_Share_spreadOthers_48 : decode b_Share_spreadOthers 48 = .ok (.iload 5, 2) := by decide +kernel
theorem d_Share_spreadOthers_50 : decode b_Share_spreadOthers 50 = .ok (.ifCond .gt 26, 3) := by decide +kernel
theorem d_Share_spreadOthers_53 : decode b_Share_spreadOthers 53 = .ok (.iload 4, 2) := by decide +kernel
theorem d_Share_spreadOthers_55 : decode b_Share_spreadOthers 55 = .ok (.sipush 255, 3) := by decide +kernel
theorem d_Share_spreadOthers_58 : decode b_Share_spreadOthers 58 = .ok (.if_icmp .ge 18, 3) := by decide +kernel
theorem d_Share_spreadOthers_61 : decode b_Share_spreadOthers 61 = .ok (.iinc 4 1, 3) := by decide +kernel
theorem d_Share_spreadOthers_64 : decode b_Share_spreadOthers 64 = .ok (.aload_n 0, 1) := by decide +kernel
theorem d_Share_spreadOthers_65 : decode b_Share_spreadOthers 65 = .ok (.getfield 9, 3) := by decide +kernel
theorem d_Share_spreadOthers_68 : decode b_Share_spreadOthers 68 = .ok (.iload 4, 2) := by decide +kernel
theorem d_Share_spreadOthers_70 : decode b_Share_spreadOthers 70 = .ok (.iaload, 1) := by decide +kernel
theorem d_Share_spreadOthers_71 : decode b_Share_spreadOthers 71 = .ok (.istore 5, 2) := by decide +kernel
theorem d_Share_spreadOthers_73 : decode b_Share_spreadOthers 73 = .ok (.goto (-25), 3) := by decide +kernel
theorem d_Share_spreadOthers_76 : decode b_Share_spreadOthers 76 = .ok (.aload_n 0, 1) := by decide +kernel
theorem d_Share_spreadOthers_77 : decode b_Share_spreadOthers 77 = .ok (.getfield 15, 3) := by decide +kernel
theorem d_Share_spreadOthers_80 : decode b_Share_spreadOthers 80 = .ok (.iload 6, 2) := by decide +kernel
theorem d_Share_spreadOthers_82 : decode b_Share_spreadOthers 82 = .ok (.iload 4, 2) := by decide +kernel
theorem d_Share_spreadOthers_84 : decode b_Share_spreadOthers 84 = .ok (.iastore, 1) := by decide +kernel
theorem d_Share_spreadOthers_85 : decode b_Share_spreadOthers 85 = .ok (.iinc 5 (-1), 3) := by decide +kernel
theorem d_Share_spreadOthers_88 : decode b_Share_spreadOthers 88 = .ok (.iload 6, 2) := by decide +kernel
theorem d_Share_spreadOthers_90 : decode b_Share_spreadOthers 90 = .ok (.iload_n 3, 1) := by decide +kernel
theorem d_Share_spreadOthers_91 : decode b_Share_spreadOthers 91 = .ok (.iadd, 1) := by decide +kernel
theorem d_Share_spreadOthers_92 : decode b_Share_spreadOthers 92 = .ok (.iload_n 2, 1) := by decide +kernel
theorem d_Share_spreadOthers_93 : decode b_Share_spreadOthers 93 = .ok (.iconst 1, 1) := by decide +kernel
theorem d_Share_spreadOthers_94 : decode b_Share_spreadOthers 94 = .ok (.isub, 1) := by decide +kernel
theorem d_Share_spreadOthers_95 : decode b_Share_spreadOthers 95 = .ok (.iand, 1) := by decide +kernel
theorem d_Share_spreadOthers_96 : decode b_Share_spreadOthers 96 = .ok (.istore 6, 2) := by decide +kernel
theorem d_Share_spreadOthers_98 : decode b_Share_spreadOthers 98 = .ok (.iinc 7 1, 3) := by decide +kernel
theorem d_Share_spreadOthers_101 : decode b_Share_spreadOthers 101 = .ok (.goto (-74), 3) := by decide +kernel
theorem d_Share_spreadOthers_104 : decode b_Share_spreadOthers 104 = .ok (.return_, 1) := by decide +kernel
theorem d_Share_numberCells_0 : decode b_Share_numberCells 0 = .ok (.iconst 0, 1) := by decide +kernel
theorem d_Share_numberCells_1 : decode b_Share_numberCells 1 = .ok (.istore_n 1, 1) := by decide +kernel
theorem d_Share_numberCells_2 : decode b_Share_numberCells 2 = .ok (.iload_n 1, 1) := by decide +kernel
theorem d_Share_numberCells_3 : decode b_Share_numberCells 3 = .ok (.aload_n 0, 1) := by decide +kernel
theorem d_Share_numberCells_4 : decode b_Share_numberCells 4 = .ok (.invokevirtual 41, 3) := by decide +kernel
theorem d_Share_numberCells_7 : decode b_Share_numberCells 7 = .ok (.if_icmp .ge 52, 3) := by decide +kernel
theorem d_Share_numberCells_10 : decode b_Share_numberCells 10 = .ok (.iload_n 1, 1) := by decide +kernel
theorem d_Share_numberCells_11 : decode b_Share_numberCells 11 = .ok (.sipush 4096, 3) := by decide +kernel
theorem d_Share_numberCells_14 : decode b_Share_numberCells 14 = .ok (.if_icmp .ge 45, 3) := by decide +kernel
theorem d_Share_numberCells_17 : decode b_Share_numberCells 17 = .ok (.aload_n 0, 1) := by decide +kernel
theorem d_Share_numberCells_18 : decode b_Share_numberCells 18 = .ok (.getfield 15, 3) := by decide +kernel
theorem d_Share_numberCells_21 : decode b_Share_numberCells 21 = .ok (.iload_n 1, 1) := by decide +kernel
theorem d_Share_numberCells_22 : decode b_Share_numberCells 22 = .ok (.iaload, 1) := by decide +kernel
theorem d_Share_numberCells_23 : decode b_Share_numberCells 23 = .ok (.istore_n 2, 1) := by decide +kernel
theorem d_Share_numberCells_24 : decode b_Share_numberCells 24 = .ok (.iload_n 2, 1) := by decide +kernel
theorem d_Share_numberCells_25 : decode b_Share_numberCells 25 = .ok (.invokestatic 45, 3) := by decide +kernel
theorem d_Share_numberCells_28 : decode b_Share_numberCells 28 = .ok (.ifCond .eq 25, 3) := by decide +kernel
theorem d_Share_numberCells_31 : decode b_Share_numberCells 31 = .ok (.aload_n 0, 1) := by decide +kernel
theorem d_Share_numberCells_32 : decode b_Share_numberCells 32 = .ok (.iload_n 1, 1) := by decide +kernel
theorem d_Share_numberCells_33 : decode b_Share_numberCells 33 = .ok (.iload_n 2, 1) := by decide +kernel
theorem d_Share_numberCells_34 : decode b_Share_numberCells 34 = .ok (.aload_n 0, 1) := by decide +kernel
theorem d_Share_numberCells_35 : decode b_Share_numberCells 35 = .ok (.getfield 30, 3) := by decide +kernel
theorem d_Share_numberCells_38 : decode b_Share_numberCells 38 = .ok (.iload_n 2, 1) := by decide +kernel
theorem d_Share_numberCells_39 : decode b_Share_numberCells 39 = .ok (.iaload, 1) := by decide +kernel
theorem d_Share_numberCells_40 : decode b_Share_numberCells 40 = .ok (.invokevirtual 79, 3) := by decide +kernel
theorem d_Share_numberCells_43 : decode b_Share_numberCells 43 = .ok (.aload_n 0, 1) := by decide +kernel
theorem d_Share_numberCells_44 : decode b_Share_numberCells 44 = .ok (.getfield 30, 3) := by decide +kernel
theorem d_Share_numberCells_47 : decode b_Share_numberCells 47 = .ok (.iload_n 2, 1) := by decide +kernel
theorem d_Share_numberCells_48 : decode b_Share_numberCells 48 = .ok (.dup2, 1) := by decide +kernel
theorem d_Share_numberCells_49 : decode b_Share_numberCells 49 = .ok (.iaload, 1) := by decide +kernel
theorem d_Share_numberCells_50 : decode b_Share_numberCells 50 = .ok (.iconst 1, 1) := by decide +kernel
theorem d_Share_numberCells_51 : decode b_Share_numberCells 51 = .ok (.iadd, 1) := by decide +kernel
theorem d_Share_numberCells_52 : decode b_Share_numberCells 52 = .ok (.iastore, 1) := by decide +kernel
theorem d_Share_numberCells_53 : decode b_Share_numberCells 53 = .ok (.iinc 1 1, 3) := by decide +kernel
theorem d_Share_numberCells_56 : decode b_Share_numberCells 56 = .ok (.goto (-54), 3) := by decide +kernel
theorem d_Share_numberCells_59 : decode b_Share_numberCells 59 = .ok (.return_, 1) := by decide +kernel
abbrev rm_Share_spreadSingles : Room := { frames := 2, cells := 0, slots := 0, locals := 41 }
set_option maxHeartbeats 4000000 in
set_option maxRecDepth 100000 in
theorem c_Share_spreadSingles (l : Launch) (D : va_G) (cI cB cZ : ClassId) (sz : Nat) (h : Nat) (pP : Nat) (pS : Nat) (pB : Nat) (pA : Nat) (pC : Nat) (pF : Nat) (pN : Nat) (o : Nat) (gP : Nat → Int) (gS : Nat → Int) (ho : 5 ≤ o ∧ o ≤ 12) (hpr : ∀ k, k < 256 → -1 ≤ gP k ∧ gP k ≤ 65536) (hsum : cum gP 256 = 2 ^ o) : Met l y_Share_spreadSingles (.code y_Share_spreadSingles b_Share_spreadSingles 3 (some .int) :: zT) rm_Share_spreadSingles (zPc D classes (TY cI cB cZ) [(h, .inr (1, [.ref pP, .ref pS, .ref pB, .ref pA, .ref pC, .ref pF, .ref pN, .int (iZ (o : Int))])), (pP, .inl (cI, 256, .inl (zA gP))), (pS, .inl (cI, 4096, .inl (zA gS)))] sz [.ref h]) (zFi (S := Nat → Int) D classes (fun z u => sngl gP o gS 256 = (z, u)) (fun u => [(h, .inr (1, [.ref pP, .ref pS, .ref pB, .ref pA, .ref pC, .ref pF, .ref pN, .int (iZ (o : Int))])), (pP, .inl (cI, 256, .inl (zA gP))), (pS, .inl (cI, 4096, .inl (zA u)))]) (va_A [(h, .inr (1, [.ref pP, .ref pS, .ref pB, .ref pA, .ref pC, .ref pF, .ref pN, .int (iZ (o : Int))])), (pP, .inl (cI, 256, .inl (zA gP))), (pS, .inl (cI, 4096, .inl (zA gS)))] sz)) 0 0 (va_A [(h, .inr (1, [.ref pP, .ref pS, .ref pB, .ref pA, .ref pC, .ref pF, .ref pN, .int (iZ (o : Int))])), (pP, .inl (cI, 256, .inl (zA gP))), (pS, .inl (cI, 4096, .inl (zA gS)))] sz) := by
  refine z_ofi (by decide) (Nat.le_of_ble_eq_true rfl) (Or.inl rfl) ?_
  intro p e s m args below meth c A Q E jA jK jret H locs jP jD jS ls jl
  obtain ⟨jx, jb, jrt, jml, jown, jts, jlk⟩ := E
  have jown : s.vm.findClass R_Share = some m.cls := jown
  have hp12 := p2_le ho.2
  have hp0 := p2_pos o
  have jl : lv_has ls 3 [(0, .ref h)] := jl
  refine lv_aload_n jx jb d_Share_spreadSingles_0 rfl (lv_at jl 0 rfl) ?_
  refine z_backe (va_runV (As := []) (rest := []) ⟨jx, jb, jml, jown, jts⟩ (c_Share_cells l D cI cB cZ h pP pS pB pA pC pF pN o (ho.2)) (zc_V 0 jts cd_Share_cells lk_Share_41 im_Share_cells se_Share_cells in_Share hd_Share_cells ⟨Nat.le_of_ble_eq_true rfl, Nat.le_of_ble_eq_true rfl⟩ rfl rfl) (z_preVR jK jP [0] rfl rfl rfl) rfl rfl jl.1 rfl (lv_room (Nat.le_of_ble_eq_true rfl)) d_Share_spreadSingles_1 ⟨Nat.le_of_ble_eq_true rfl, Nat.le_of_ble_eq_true rfl⟩) ?_
  refine lv_istore_n (lv' := [(1, .int (iZ (2 ^ o))), (0, .ref h)]) jx jb d_Share_spreadSingles_4 rfl jl (by decide) rfl (fun ls jl => ?_)
  refine lv_iconst (v := iZ 0) jx jb d_Share_spreadSingles_5 rfl ?_
  refine lv_istore_n (lv' := [(2, .int (iZ 0)), (1, .int (iZ (2 ^ o))), (0, .ref h)]) jx jb d_Share_spreadSingles_6 rfl jl (by decide) rfl (fun ls jl => ?_)
  have hloop7 : ∀ (nF : Nat) (i : Nat) (E : Int) (t2 : Nat → Int), 256 - i < nF → (i ≤ 256) → (sngl gP o gS i = (E, t2)) → ∀ (H : Heap) (locs : List Loc), va_P D classes [(h, .inr (1, [.ref pP, .ref pS, .ref pB, .ref pA, .ref pC, .ref pF, .ref pN, .int (iZ (o : Int))])), (pP, .inl (cI, 256, .inl (zA gP))), (pS, .inl (cI, 4096, .inl (zA t2)))] H → va_D A [(h, .inr (1, [.ref pP, .ref pS, .ref pB, .ref pA, .ref pC, .ref pF, .ref pN, .int (iZ (o : Int))])), (pP, .inl (cI, 256, .inl (zA gP))), (pS, .inl (cI, 4096, .inl (zA t2)))] → va_S A s.heap H locs → ∀ ls : Array Slot, lv_has ls 3 [(0, .ref h), (1, .int (iZ E)), (2, .int (iZ (i : Int)))] → W p l e rm_Share_spreadSingles s m args below meth c H locs 0 0 Q (F0 m 7 ls []) := by
    intro nF
    induction nF with
    | zero => intro i E t2 hm; exact absurd hm (Nat.not_lt_zero _)
    | succ nF ih7 =>
      intro i E t2 hm hi hq H locs jP jD jS ls jl
      have hsb := sngl_b hpr hi hq
      refine lv_iload_n jx jb d_Share_spreadSingles_7 rfl (lv_at jl 2 rfl) ?_
      refine lv_sipush (v := iZ 256) jx jb d_Share_spreadSingles_8 (by decide) ?_
      refine z_icmp_ge (tgt := 50) jx jb d_Share_spreadSingles_11 (by decide) ⟨⟨by omega, by omega⟩, ⟨by decide, by decide⟩⟩ (fun hc11 => ?_) (fun hc11 => ?_)
      ·
        refine lv_iload_n jx jb d_Share_spreadSingles_50 rfl (lv_at jl 1 rfl) ?_
        exact jret _ _ _ (t2) _ _ (Or.inl rfl) (by rw [show (256 : Nat) = i by omega]; exact hq) (jP.sub [0, 1, 2] rfl) (jD.sub [0, 1, 2] (by decide) rfl) jS d_Share_spreadSingles_51
      ·
        refine lv_aload_n jx jb d_Share_spreadSingles_14 rfl (lv_at jl 0 rfl) ?_
        refine va_get (D := D) (ci := 1) (v := .ref pP) (C := R_Share) (T := F_Share) (N := 8) jx jb jts i_Share jown jK.1 jP 0 rfl rfl 0 (by decide) (jts _ fl_Share_9) (fun _ h9 => h9) rfl d_Share_spreadSingles_15 ?_
        refine lv_iload_n jx jb d_Share_spreadSingles_18 rfl (lv_at jl 2 rfl) ?_
        refine z_iald jx jb jK.1 jP 1 0 rfl rfl i (by omega) d_Share_spreadSingles_19 ?_
        refine lv_iconst (v := iZ (-1)) jx jb d_Share_spreadSingles_20 rfl ?_
        have hpi := hpr i (by omega)
        have hfit := cum_fit hpr (y := i) (by omega)
        refine z_icmp_ne (tgt := 44) jx jb d_Share_spreadSingles_21 (by decide) ⟨⟨by omega, by omega⟩, ⟨by decide, by decide⟩⟩ (fun hc21 => ?_) (fun hc21 => ?_)
        ·
          refine lv_iinc (v := iZ ((i : Int) + 1)) (lv' := [(2, .int (iZ ((i : Int) + 1))), (0, .ref h), (1, .int (iZ E))]) jx jb d_Share_spreadSingles_44 jl (k := 2) rfl (iZ_add _ _) (by decide) rfl (fun ls jl => ?_)
          refine lv_goto (tgt := 7) jx jb d_Share_spreadSingles_47 (by decide) ?_
          exact ih7 (i + 1) E t2 (by omega) (by first | assumption | omega) (by first | exact sngl_n hq hc21 | exact sngl_s hq hc21) _ _ (jP.sub [0, 1, 2] rfl) (jD.sub [0, 1, 2] (by decide) rfl) jS _ (lv_sub jl [1, 2, 0] rfl)
        ·
          have hw1 : wgt (gP i) = 1 := if_pos hc21
          refine lv_aload_n jx jb d_Share_spreadSingles_24 rfl (lv_at jl 0 rfl) ?_
          refine lv_iload_n jx jb d_Share_spreadSingles_25 rfl (lv_at jl 1 rfl) ?_
          refine lv_iconst (v := iZ 1) jx jb d_Share_spreadSingles_26 rfl ?_
          refine z_isub jx jb d_Share_spreadSingles_27 ?_
          refine z_backr (va_runV (As := [.int (iZ (E - 1))]) (rest := []) ⟨jx, jb, jml, jown, jts⟩ (c_Share_hasCell l D cI cB cZ h pP pS pB pA pC pF pN o (E - 1) (ho.2) (by first | assumption | omega)) (zc_V 1 jts cd_Share_hasCell lk_Share_56 im_Share_hasCell se_Share_hasCell in_Share hd_Share_hasCell ⟨Nat.le_of_ble_eq_true rfl, Nat.le_of_ble_eq_true rfl⟩ rfl rfl) (z_preVR jK jP [0] rfl rfl rfl) rfl rfl jl.1 rfl (lv_room (Nat.le_of_ble_eq_true rfl)) d_Share_spreadSingles_28 ⟨Nat.le_of_ble_eq_true rfl, Nat.le_of_ble_eq_true rfl⟩) (fun z28 hz28 => ?_)
          rcases hz28 with ⟨rfl, hq28⟩ | ⟨rfl, hq28⟩
          ·
            refine z_if_eq (tgt := 44) jx jb d_Share_spreadSingles_31 (by decide) ⟨by decide, by decide⟩ (fun hc31 => ?_) (fun hc31 => ?_)
            ·
              exact absurd hc31 (by decide)
            ·
              refine lv_iinc (v := iZ (E - 1)) (lv' := [(1, .int (iZ (E - 1))), (0, .ref h), (2, .int (iZ (i : Int)))]) jx jb d_Share_spreadSingles_34 jl (k := 1) rfl (by rw [show (E - 1) = E + (-1) from rfl]; exact iZ_add _ _) (by decide) rfl (fun ls jl => ?_)
              refine lv_aload_n jx jb d_Share_spreadSingles_37 rfl (lv_at jl 1 rfl) ?_
              refine va_get (D := D) (ci := 1) (v := .ref pS) (C := R_Share) (T := F_Share) (N := 8) jx jb jts i_Share jown jK.1 jP 0 rfl rfl 1 (by decide) (jts _ fl_Share_15) (fun _ h9 => h9) rfl d_Share_spreadSingles_38 ?_
              refine lv_iload_n jx jb d_Share_spreadSingles_41 rfl (lv_at jl 0 rfl) ?_
              refine lv_iload_n jx jb d_Share_spreadSingles_42 rfl (lv_at jl 2 rfl) ?_
              refine z_iast jx jb jK.1 jP jD jS 2 0 rfl rfl ((E - 1).toNat) (by omega) d_Share_spreadSingles_43 (fun H locs jP jD jS => ?_)
              have jP : va_P D classes [(h, .inr (1, [.ref pP, .ref pS, .ref pB, .ref pA, .ref pC, .ref pF, .ref pN, .int (iZ (o : Int))])), (pP, .inl (cI, 256, .inl (zA gP))), (pS, .inl (cI, 4096, .inl (zA (zu t2 ((E - 1).toNat) (i : Int)))))] H := jP
              have jD : va_D A [(h, .inr (1, [.ref pP, .ref pS, .ref pB, .ref pA, .ref pC, .ref pF, .ref pN, .int (iZ (o : Int))])), (pP, .inl (cI, 256, .inl (zA gP))), (pS, .inl (cI, 4096, .inl (zA (zu t2 ((E - 1).toNat) (i : Int)))))] := jD
              refine lv_iinc (v := iZ ((i : Int) + 1)) (lv' := [(2, .int (iZ ((i : Int) + 1))), (1, .int (iZ (E - 1))), (0, .ref h)]) jx jb d_Share_spreadSingles_44 jl (k := 2) rfl (iZ_add _ _) (by decide) rfl (fun ls jl => ?_)
              refine lv_goto (tgt := 7) jx jb d_Share_spreadSingles_47 (by decide) ?_
              exact ih7 (i + 1) (E - 1) (zu t2 ((E - 1).toNat) (i : Int)) (by omega) (by first | assumption | omega) (by first | exact sngl_n hq hc21 | exact sngl_s hq hc21) _ _ (jP.sub [0, 1, 2] rfl) (jD.sub [0, 1, 2] (by decide) rfl) jS _ (lv_sub jl [2, 1, 0] rfl)
          ·
            exfalso; omega
  exact hloop7 ((256 - 0) + 1) 0 (2 ^ o) gS (Nat.lt_succ_self _) (by first | assumption | omega) (rfl) _ _ (jP.sub [0, 1, 2] rfl) (jD.sub [0, 1, 2] (by decide) rfl) jS _ (lv_sub jl [2, 1, 0] rfl)
abbrev rm_Share_spreadOthers : Room := { frames := 2, cells := 0, slots := 0, locals := 41 }
set_option maxHeartbeats 4000000 in
set_option maxRecDepth 100000 in
theorem c_Share_spreadOthers (l : Launch) (D : va_G) (cI cB cZ : ClassId) (sz : Nat) (h : Nat) (pP : Nat) (pS : Nat) (pB : Nat) (pA : Nat) (pC : Nat) (pF : Nat) (pN : Nat) (o : Nat) (gP : Nat → Int) (gS : Nat → Int) (x : Int) (ho : 5 ≤ o ∧ o ≤ 12) (hpr : ∀ k, k < 256 → -1 ≤ gP k ∧ gP k ≤ 65536) (hx1 : 0 ≤ x ∧ x ≤ 4096) : Met l y_Share_spreadOthers (.code y_Share_spreadOthers b_Share_spreadOthers 8 none :: zT) rm_Share_spreadOthers (zPc D classes (TY cI cB cZ) [(h, .inr (1, [.ref pP, .ref pS, .ref pB, .ref pA, .ref pC, .ref pF, .ref pN, .int (iZ (o : Int))])), (pP, .inl (cI, 256, .inl (zA gP))), (pS, .inl (cI, 4096, .inl (zA gS)))] sz [.ref h, .int (iZ x)]) (zFv (S := Nat → Int) D classes (fun u => u = (sprd gP o x gS (2 ^ o)).1) (fun u => [(h, .inr (1, [.ref pP, .ref pS, .ref pB, .ref pA, .ref pC, .ref pF, .ref pN, .int (iZ (o : Int))])), (pP, .inl (cI, 256, .inl (zA gP))), (pS, .inl (cI, 4096, .inl (zA u)))]) (va_A [(h, .inr (1, [.ref pP, .ref pS, .ref pB, .ref pA, .ref pC, .ref pF, .ref pN, .int (iZ (o : Int))])), (pP, .inl (cI, 256, .inl (zA gP))), (pS, .inl (cI, 4096, .inl (zA gS)))] sz)) 0 0 (va_A [(h, .inr (1, [.ref pP, .ref pS, .ref pB, .ref pA, .ref pC, .ref pF, .ref pN, .int (iZ (o : Int))])), (pP, .inl (cI, 256, .inl (zA gP))), (pS, .inl (cI, 4096, .inl (zA gS)))] sz) := by
  refine z_ofv (by decide) (Nat.le_of_ble_eq_true rfl) rfl ?_
  intro p e s m args below meth c A Q E jmn jA jK jret H locs jP jD jS ls jl
  obtain ⟨jx, jb, jrt, jml, jown, jts, jlk⟩ := E
  have jown : s.vm.findClass R_Share = some m.cls := jown
  have hp12 := p2_le ho.2
  have hp0 := p2_pos o
  have hpn := p2n o
  have jl : lv_has ls 8 [(0, .ref h), (1, .int (iZ x))] := jl
  refine lv_aload_n jx jb d_Share_spreadOthers_0 rfl (lv_at jl 0 rfl) ?_
  refine z_backe (va_runV (As := []) (rest := []) ⟨jx, jb, jml, jown, jts⟩ (c_Share_cells l D cI cB cZ h pP pS pB pA pC pF pN o (ho.2)) (zc_V 0 jts cd_Share_cells lk_Share_41 im_Share_cells se_Share_cells in_Share hd_Share_cells ⟨Nat.le_of_ble_eq_true rfl, Nat.le_of_ble_eq_true rfl⟩ rfl rfl) (z_preVR jK jP [0] rfl rfl rfl) rfl rfl jl.1 rfl (lv_room (Nat.le_of_ble_eq_true rfl)) d_Share_spreadOthers_1 ⟨Nat.le_of_ble_eq_true rfl, Nat.le_of_ble_eq_true rfl⟩) ?_
  refine lv_istore_n (lv' := [(2, .int (iZ (2 ^ o))), (0, .ref h), (1, .int (iZ x))]) jx jb d_Share_spreadOthers_4 rfl jl (by decide) rfl (fun ls jl => ?_)
  refine lv_iload_n jx jb d_Share_spreadOthers_5 rfl (lv_at jl 0 rfl) ?_
  refine lv_iconst (v := iZ 1) jx jb d_Share_spreadOthers_6 rfl ?_
  refine z_ishr jx jb d_Share_spreadOthers_7 1 2 (rfl) (by omega) ?_
  refine lv_iload_n jx jb d_Share_spreadOthers_8 rfl (lv_at jl 0 rfl) ?_
  refine lv_iconst (v := iZ 3) jx jb d_Share_spreadOthers_9 rfl ?_
  refine z_ishr jx jb d_Share_spreadOthers_10 3 8 (rfl) (by omega) ?_
  refine z_iadd jx jb d_Share_spreadOthers_11 ?_
  refine lv_iconst (v := iZ 3) jx jb d_Share_spreadOthers_12 rfl ?_
  refine z_iadd jx jb d_Share_spreadOthers_13 ?_
  refine z_top (stp o : Int) (stp_i) ?_
  refine lv_istore_n (lv' := [(3, .int (iZ (stp o : Int))), (2, .int (iZ (2 ^ o))), (0, .ref h), (1, .int (iZ x))]) jx jb d_Share_spreadOthers_14 rfl jl (by decide) rfl (fun ls jl => ?_)
  refine lv_iconst (v := iZ (-1)) jx jb d_Share_spreadOthers_15 rfl ?_
  refine lv_istore (lv' := [(4, .int (iZ (-1))), (3, .int (iZ (stp o : Int))), (2, .int (iZ (2 ^ o))), (0, .ref h), (1, .int (iZ x))]) jx jb d_Share_spreadOthers_16 jl (by decide) rfl (fun ls jl => ?_)
  refine lv_iconst (v := iZ 0) jx jb d_Share_spreadOthers_18 rfl ?_
  refine lv_istore (lv' := [(5, .int (iZ 0)), (4, .int (iZ (-1))), (3, .int (iZ (stp o : Int))), (2, .int (iZ (2 ^ o))), (0, .ref h), (1, .int (iZ x))]) jx jb d_Share_spreadOthers_19 jl (by decide) rfl (fun ls jl => ?_)
  refine lv_iconst (v := iZ 0) jx jb d_Share_spreadOthers_21 rfl ?_
  refine z_top (cel o 0 : Int) (by rw [cel_0]; rfl) ?_
  refine lv_istore (lv' := [(6, .int (iZ (cel o 0 : Int))), (5, .int (iZ 0)), (4, .int (iZ (-1))), (3, .int (iZ (stp o : Int))), (2, .int (iZ (2 ^ o))), (0, .ref h), (1, .int (iZ x))]) jx jb d_Share_spreadOthers_22 jl (by decide) rfl (fun ls jl => ?_)
  refine lv_iconst (v := iZ 0) jx jb d_Share_spreadOthers_24 rfl ?_
  refine lv_istore (lv' := [(7, .int (iZ 0)), (6, .int (iZ (cel o 0 : Int))), (5, .int (iZ 0)), (4, .int (iZ (-1))), (3, .int (iZ (stp o : Int))), (2, .int (iZ (2 ^ o))), (0, .ref h), (1, .int (iZ x))]) jx jb d_Share_spreadOthers_25 jl (by decide) rfl (fun ls jl => ?_)
  have hloop27 : ∀ (nF : Nat) (k : Nat) (a : Int) (b : Int) (s1 : Nat) (l1 : Int) (t2 : Nat → Int), 2 ^ o - k < nF → ((k : Int) ≤ 2 ^ o) → (sprd gP o x gS k = (t2, s1, l1)) → (stD gP a b s1 l1) → (-(k : Int) - 1 ≤ b ∧ b ≤ 65536) → ∀ (H : Heap) (locs : List Loc), va_P D classes [(h, .inr (1, [.ref pP, .ref pS, .ref pB, .ref pA, .ref pC, .ref pF, .ref pN, .int (iZ (o : Int))])), (pP, .inl (cI, 256, .inl (zA gP))), (pS, .inl (cI, 4096, .inl (zA t2)))] H → va_D A [(h, .inr (1, [.ref pP, .ref pS, .ref pB, .ref pA, .ref pC, .ref pF, .ref pN, .int (iZ (o : Int))])), (pP, .inl (cI, 256, .inl (zA gP))), (pS, .inl (cI, 4096, .inl (zA t2)))] → va_S A s.heap H locs → ∀ ls : Array Slot, lv_has ls 8 [(0, .ref h), (1, .int (iZ x)), (2, .int (iZ (2 ^ o))), (3, .int (iZ (stp o : Int))), (4, .int (iZ a)), (5, .int (iZ b)), (6, .int (iZ (cel o k : Int))), (7, .int (iZ (k : Int)))] → W p l e rm_Share_spreadOthers s m args below meth c H locs 0 0 Q (F0 m 27 ls []) := by
    intro nF
    induction nF with
    | zero => intro k a b s1 l1 t2 hm; exact absurd hm (Nat.not_lt_zero _)
    | succ nF ih27 =>
      intro k a b s1 l1 t2 hm hk hq hst hbr H locs jP jD jS ls jl
      have hcl := cel_lt o k
      refine lv_iload jx jb d_Share_spreadOthers_27 (lv_at jl 7 rfl) ?_
      refine lv_iload_n jx jb d_Share_spreadOthers_29 rfl (lv_at jl 2 rfl) ?_
      refine z_icmp_ge (tgt := 104) jx jb d_Share_spreadOthers_30 (by decide) ⟨⟨by omega, by omega⟩, ⟨by omega, by omega⟩⟩ (fun hc30 => ?_) (fun hc30 => ?_)
      ·
        obtain rfl : 2 ^ o = k := by omega
        exact jret _ _ (t2) _ _ (by rw [hq]) (jP.sub [0, 1, 2] rfl) (jD.sub [0, 1, 2] (by decide) rfl) jS d_Share_spreadOthers_104
      ·
        refine lv_iload jx jb d_Share_spreadOthers_33 (lv_at jl 6 rfl) ?_
        refine lv_iload_n jx jb d_Share_spreadOthers_35 rfl (lv_at jl 1 rfl) ?_
        refine z_icmp_ge (tgt := 88) jx jb d_Share_spreadOthers_36 (by decide) ⟨⟨by omega, by omega⟩, ⟨by omega, by omega⟩⟩ (fun hc36 => ?_) (fun hc36 => ?_)
        ·
          refine lv_iload jx jb d_Share_spreadOthers_88 (lv_at jl 6 rfl) ?_
          refine lv_iload_n jx jb d_Share_spreadOthers_90 rfl (lv_at jl 3 rfl) ?_
          refine z_iadd jx jb d_Share_spreadOthers_91 ?_
          refine lv_iload_n jx jb d_Share_spreadOthers_92 rfl (lv_at jl 2 rfl) ?_
          refine lv_iconst (v := iZ 1) jx jb d_Share_spreadOthers_93 rfl ?_
          refine z_isub jx jb d_Share_spreadOthers_94 ?_
          refine z_iand jx jb d_Share_spreadOthers_95 o (2 ^ o) (rfl) (rfl) (by omega) ?_
          refine z_top (cel o (k + 1) : Int) (cel_i o k) ?_
          refine lv_istore (lv' := [(6, .int (iZ (cel o (k + 1) : Int))), (0, .ref h), (1, .int (iZ x)), (2, .int (iZ (2 ^ o))), (3, .int (iZ (stp o : Int))), (4, .int (iZ a)), (5, .int (iZ b)), (7, .int (iZ (k : Int)))]) jx jb d_Share_spreadOthers_96 jl (by decide) rfl (fun ls jl => ?_)
          refine lv_iinc (v := iZ ((k : Int) + 1)) (lv' := [(7, .int (iZ ((k : Int) + 1))), (6, .int (iZ (cel o (k + 1) : Int))), (0, .ref h), (1, .int (iZ x)), (2, .int (iZ (2 ^ o))), (3, .int (iZ (stp o : Int))), (4, .int (iZ a)), (5, .int (iZ b))]) jx jb d_Share_spreadOthers_98 jl (k := 7) rfl (iZ_add _ _) (by decide) rfl (fun ls jl => ?_)
          refine lv_goto (tgt := 27) jx jb d_Share_spreadOthers_101 (by decide) ?_
          exact ih27 (k + 1) a b s1 l1 t2 (by omega) (by omega) (sprd_n hq (by omega)) (hst) (by omega) _ _ (jP.sub [0, 1, 2] rfl) (jD.sub [0, 1, 2] (by decide) rfl) jS _ (lv_sub jl [2, 3, 4, 5, 6, 7, 1, 0] rfl)
        ·
          refine lv_aload_n jx jb d_Share_spreadOthers_39 rfl (lv_at jl 0 rfl) ?_
          refine lv_iload jx jb d_Share_spreadOthers_40 (lv_at jl 6 rfl) ?_
          refine z_backr (va_runV (As := [.int (iZ (cel o k : Int))]) (rest := []) ⟨jx, jb, jml, jown, jts⟩ (c_Share_hasCell l D cI cB cZ h pP pS pB pA pC pF pN o (cel o k : Int) (ho.2) (by first | assumption | omega)) (zc_V 1 jts cd_Share_hasCell lk_Share_56 im_Share_hasCell se_Share_hasCell in_Share hd_Share_hasCell ⟨Nat.le_of_ble_eq_true rfl, Nat.le_of_ble_eq_true rfl⟩ rfl rfl) (z_preVR jK jP [0] rfl rfl rfl) rfl rfl jl.1 rfl (lv_room (Nat.le_of_ble_eq_true rfl)) d_Share_spreadOthers_42 ⟨Nat.le_of_ble_eq_true rfl, Nat.le_of_ble_eq_true rfl⟩) (fun z42 hz42 => ?_)
          rcases hz42 with ⟨rfl, hq42⟩ | ⟨rfl, hq42⟩
          ·
            refine z_if_eq (tgt := 88) jx jb d_Share_spreadOthers_45 (by decide) ⟨by decide, by decide⟩ (fun hc45 => ?_) (fun hc45 => ?_)
            ·
              exact absurd hc45 (by decide)
            ·
              have hloop48 : ∀ (nF : Nat) (a2 : Int) (b2 : Int), (255 - a2).toNat < nF → (stC gP (adv gP 256 s1 l1) a2 b2) → (-(k : Int) - 1 ≤ b2 ∧ b2 ≤ 65536) → ∀ (H : Heap) (locs : List Loc), va_P D classes [(h, .inr (1, [.ref pP, .ref pS, .ref pB, .ref pA, .ref pC, .ref pF, .ref pN, .int (iZ (o : Int))])), (pP, .inl (cI, 256, .inl (zA gP))), (pS, .inl (cI, 4096, .inl (zA t2)))] H → va_D A [(h, .inr (1, [.ref pP, .ref pS, .ref pB, .ref pA, .ref pC, .ref pF, .ref pN, .int (iZ (o : Int))])), (pP, .inl (cI, 256, .inl (zA gP))), (pS, .inl (cI, 4096, .inl (zA t2)))] → va_S A s.heap H locs → ∀ ls : Array Slot, lv_has ls 8 [(0, .ref h), (1, .int (iZ x)), (2, .int (iZ (2 ^ o))), (3, .int (iZ (stp o : Int))), (4, .int (iZ a2)), (5, .int (iZ b2)), (6, .int (iZ (cel o k : Int))), (7, .int (iZ (k : Int)))] → W p l e rm_Share_spreadOthers s m args below meth c H locs 0 0 Q (F0 m 48 ls []) := by
                intro nF
                induction nF with
                | zero => intro a2 b2 hm; exact absurd hm (Nat.not_lt_zero _)
                | succ nF ih48 =>
                  intro a2 b2 hm hsc hb2 H locs jP jD jS ls jl
                  have hab := stC_lo hsc
                  refine lv_iload jx jb d_Share_spreadOthers_48 (lv_at jl 5 rfl) ?_
                  refine z_if_gt (tgt := 76) jx jb d_Share_spreadOthers_50 (by decide) ⟨by omega, by omega⟩ (fun hc50 => ?_) (fun hc50 => ?_)
                  ·
                    obtain ⟨s2, hsa, hs2, hT⟩ := stC_e hsc (by omega)
                    refine lv_aload_n jx jb d_Share_spreadOthers_76 rfl (lv_at jl 0 rfl) ?_
                    refine va_get (D := D) (ci := 1) (v := .ref pS) (C := R_Share) (T := F_Share) (N := 8) jx jb jts i_Share jown jK.1 jP 0 rfl rfl 1 (by decide) (jts _ fl_Share_15) (fun _ h9 => h9) rfl d_Share_spreadOthers_77 ?_
                    refine lv_iload jx jb d_Share_spreadOthers_80 (lv_at jl 6 rfl) ?_
                    refine lv_iload jx jb d_Share_spreadOthers_82 (lv_at jl 4 rfl) ?_
                    refine z_iast jx jb jK.1 jP jD jS 2 0 rfl rfl (cel o k) (by omega) d_Share_spreadOthers_84 (fun H locs jP jD jS => ?_)
                    have jP : va_P D classes [(h, .inr (1, [.ref pP, .ref pS, .ref pB, .ref pA, .ref pC, .ref pF, .ref pN, .int (iZ (o : Int))])), (pP, .inl (cI, 256, .inl (zA gP))), (pS, .inl (cI, 4096, .inl (zA (zu t2 (cel o k) a2))))] H := jP
                    have jD : va_D A [(h, .inr (1, [.ref pP, .ref pS, .ref pB, .ref pA, .ref pC, .ref pF, .ref pN, .int (iZ (o : Int))])), (pP, .inl (cI, 256, .inl (zA gP))), (pS, .inl (cI, 4096, .inl (zA (zu t2 (cel o k) a2))))] := jD
                    refine lv_iinc (v := iZ (b2 + (-1))) (lv' := [(5, .int (iZ (b2 + (-1)))), (0, .ref h), (1, .int (iZ x)), (2, .int (iZ (2 ^ o))), (3, .int (iZ (stp o : Int))), (4, .int (iZ a2)), (6, .int (iZ (cel o k : Int))), (7, .int (iZ (k : Int)))]) jx jb d_Share_spreadOthers_85 jl (k := 5) rfl (iZ_add _ _) (by decide) rfl (fun ls jl => ?_)
                    refine lv_iload jx jb d_Share_spreadOthers_88 (lv_at jl 6 rfl) ?_
                    refine lv_iload_n jx jb d_Share_spreadOthers_90 rfl (lv_at jl 4 rfl) ?_
                    refine z_iadd jx jb d_Share_spreadOthers_91 ?_
                    refine lv_iload_n jx jb d_Share_spreadOthers_92 rfl (lv_at jl 3 rfl) ?_
                    refine lv_iconst (v := iZ 1) jx jb d_Share_spreadOthers_93 rfl ?_
                    refine z_isub jx jb d_Share_spreadOthers_94 ?_
                    refine z_iand jx jb d_Share_spreadOthers_95 o (2 ^ o) (rfl) (rfl) (by omega) ?_
                    refine z_top (cel o (k + 1) : Int) (cel_i o k) ?_
                    refine lv_istore (lv' := [(6, .int (iZ (cel o (k + 1) : Int))), (5, .int (iZ (b2 + (-1)))), (0, .ref h), (1, .int (iZ x)), (2, .int (iZ (2 ^ o))), (3, .int (iZ (stp o : Int))), (4, .int (iZ a2)), (7, .int (iZ (k : Int)))]) jx jb d_Share_spreadOthers_96 jl (by decide) rfl (fun ls jl => ?_)
                    refine lv_iinc (v := iZ ((k : Int) + 1)) (lv' := [(7, .int (iZ ((k : Int) + 1))), (6, .int (iZ (cel o (k + 1) : Int))), (5, .int (iZ (b2 + (-1)))), (0, .ref h), (1, .int (iZ x)), (2, .int (iZ (2 ^ o))), (3, .int (iZ (stp o : Int))), (4, .int (iZ a2))]) jx jb d_Share_spreadOthers_98 jl (k := 7) rfl (iZ_add _ _) (by decide) rfl (fun ls jl => ?_)
                    refine lv_goto (tgt := 27) jx jb d_Share_spreadOthers_101 (by decide) ?_
                    exact ih27 (k + 1) a2 (b2 + (-1)) s2 (b2 - 1) (zu t2 (cel o k) a2) (by omega) (by omega) (by rw [hsa]; exact sprd_s hq (by omega) hT) (Or.inr ⟨hsa, hs2, rfl⟩) (by omega) _ _ (jP.sub [0, 1, 2] rfl) (jD.sub [0, 1, 2] (by decide) rfl) jS _ (lv_sub jl [3, 4, 5, 6, 7, 2, 1, 0] rfl)
                  ·
                    refine lv_iload jx jb d_Share_spreadOthers_53 (lv_at jl 4 rfl) ?_
                    refine lv_sipush (v := iZ 255) jx jb d_Share_spreadOthers_55 (by decide) ?_
                    refine z_icmp_ge (tgt := 76) jx jb d_Share_spreadOthers_58 (by decide) ⟨⟨by omega, by omega⟩, ⟨by decide, by decide⟩⟩ (fun hc58 => ?_) (fun hc58 => ?_)
                    ·
                      obtain ⟨s2, hsa, hs2, hT⟩ := stC_e hsc (by omega)
                      refine lv_aload_n jx jb d_Share_spreadOthers_76 rfl (lv_at jl 0 rfl) ?_
                      refine va_get (D := D) (ci := 1) (v := .ref pS) (C := R_Share) (T := F_Share) (N := 8) jx jb jts i_Share jown jK.1 jP 0 rfl rfl 1 (by decide) (jts _ fl_Share_15) (fun _ h9 => h9) rfl d_Share_spreadOthers_77 ?_
                      refine lv_iload jx jb d_Share_spreadOthers_80 (lv_at jl 6 rfl) ?_
                      refine lv_iload jx jb d_Share_spreadOthers_82 (lv_at jl 4 rfl) ?_
                      refine z_iast jx jb jK.1 jP jD jS 2 0 rfl rfl (cel o k) (by omega) d_Share_spreadOthers_84 (fun H locs jP jD jS => ?_)
                      have jP : va_P D classes [(h, .inr (1, [.ref pP, .ref pS, .ref pB, .ref pA, .ref pC, .ref pF, .ref pN, .int (iZ (o : Int))])), (pP, .inl (cI, 256, .inl (zA gP))), (pS, .inl (cI, 4096, .inl (zA (zu t2 (cel o k) a2))))] H := jP
                      have jD : va_D A [(h, .inr (1, [.ref pP, .ref pS, .ref pB, .ref pA, .ref pC, .ref pF, .ref pN, .int (iZ (o : Int))])), (pP, .inl (cI, 256, .inl (zA gP))), (pS, .inl (cI, 4096, .inl (zA (zu t2 (cel o k) a2))))] := jD
                      refine lv_iinc (v := iZ (b2 + (-1))) (lv' := [(5, .int (iZ (b2 + (-1)))), (0, .ref h), (1, .int (iZ x)), (2, .int (iZ (2 ^ o))), (3, .int (iZ (stp o : Int))), (4, .int (iZ a2)), (6, .int (iZ (cel o k : Int))), (7, .int (iZ (k : Int)))]) jx jb d_Share_spreadOthers_85 jl (k := 5) rfl (iZ_add _ _) (by decide) rfl (fun ls jl => ?_)
                      refine lv_iload jx jb d_Share_spreadOthers_88 (lv_at jl 6 rfl) ?_
                      refine lv_iload_n jx jb d_Share_spreadOthers_90 rfl (lv_at jl 4 rfl) ?_
                      refine z_iadd jx jb d_Share_spreadOthers_91 ?_
                      refine lv_iload_n jx jb d_Share_spreadOthers_92 rfl (lv_at jl 3 rfl) ?_
                      refine lv_iconst (v := iZ 1) jx jb d_Share_spreadOthers_93 rfl ?_
                      refine z_isub jx jb d_Share_spreadOthers_94 ?_
                      refine z_iand jx jb d_Share_spreadOthers_95 o (2 ^ o) (rfl) (rfl) (by omega) ?_
                      refine z_top (cel o (k + 1) : Int) (cel_i o k) ?_
                      refine lv_istore (lv' := [(6, .int (iZ (cel o (k + 1) : Int))), (5, .int (iZ (b2 + (-1)))), (0, .ref h), (1, .int (iZ x)), (2, .int (iZ (2 ^ o))), (3, .int (iZ (stp o : Int))), (4, .int (iZ a2)), (7, .int (iZ (k : Int)))]) jx jb d_Share_spreadOthers_96 jl (by decide) rfl (fun ls jl => ?_)
                      refine lv_iinc (v := iZ ((k : Int) + 1)) (lv' := [(7, .int (iZ ((k : Int) + 1))), (6, .int (iZ (cel o (k + 1) : Int))), (5, .int (iZ (b2 + (-1)))), (0, .ref h), (1, .int (iZ x)), (2, .int (iZ (2 ^ o))), (3, .int (iZ (stp o : Int))), (4, .int (iZ a2))]) jx jb d_Share_spreadOthers_98 jl (k := 7) rfl (iZ_add _ _) (by decide) rfl (fun ls jl => ?_)
                      refine lv_goto (tgt := 27) jx jb d_Share_spreadOthers_101 (by decide) ?_
                      exact ih27 (k + 1) a2 (b2 + (-1)) s2 (b2 - 1) (zu t2 (cel o k) a2) (by omega) (by omega) (by rw [hsa]; exact sprd_s hq (by omega) hT) (Or.inr ⟨hsa, hs2, rfl⟩) (by omega) _ _ (jP.sub [0, 1, 2] rfl) (jD.sub [0, 1, 2] (by decide) rfl) jS _ (lv_sub jl [3, 4, 5, 6, 7, 2, 1, 0] rfl)
                    ·
                      refine lv_iinc (v := iZ (a2 + 1)) (lv' := [(4, .int (iZ (a2 + 1))), (0, .ref h), (1, .int (iZ x)), (2, .int (iZ (2 ^ o))), (3, .int (iZ (stp o : Int))), (5, .int (iZ b2)), (6, .int (iZ (cel o k : Int))), (7, .int (iZ (k : Int)))]) jx jb d_Share_spreadOthers_61 jl (k := 4) rfl (iZ_add _ _) (by decide) rfl (fun ls jl => ?_)
                      refine lv_aload_n jx jb d_Share_spreadOthers_64 rfl (lv_at jl 1 rfl) ?_
                      refine va_get (D := D) (ci := 1) (v := .ref pP) (C := R_Share) (T := F_Share) (N := 8) jx jb jts i_Share jown jK.1 jP 0 rfl rfl 0 (by decide) (jts _ fl_Share_9) (fun _ h9 => h9) rfl d_Share_spreadOthers_65 ?_
                      refine lv_iload jx jb d_Share_spreadOthers_68 (lv_at jl 0 rfl) ?_
                      have hpa := hpr (a2 + 1).toNat (by omega)
                      refine z_iald jx jb jK.1 jP 1 0 rfl rfl ((a2 + 1).toNat) (by omega) d_Share_spreadOthers_70 ?_
                      refine lv_istore (lv' := [(5, .int (iZ (gP ((a2 + 1).toNat)))), (4, .int (iZ (a2 + 1))), (0, .ref h), (1, .int (iZ x)), (2, .int (iZ (2 ^ o))), (3, .int (iZ (stp o : Int))), (6, .int (iZ (cel o k : Int))), (7, .int (iZ (k : Int)))]) jx jb d_Share_spreadOthers_71 jl (by decide) rfl (fun ls jl => ?_)
                      refine lv_goto (tgt := 48) jx jb d_Share_spreadOthers_73 (by decide) ?_
                      exact ih48 (a2 + 1) (gP ((a2 + 1).toNat)) (by omega) (stC_s hsc (by omega) (by omega)) (by first | assumption | omega) _ _ (jP.sub [0, 1, 2] rfl) (jD.sub [0, 1, 2] (by decide) rfl) jS _ (lv_sub jl [2, 3, 4, 5, 1, 0, 6, 7] rfl)
              exact hloop48 (((255 - a).toNat) + 1) a b (Nat.lt_succ_self _) (stD_C hst) (hbr) _ _ (jP.sub [0, 1, 2] rfl) (jD.sub [0, 1, 2] (by decide) rfl) jS _ (lv_sub jl [0, 1, 2, 3, 4, 5, 6, 7] rfl)
          ·
            exfalso; omega
  exact hloop27 ((2 ^ o - 0) + 1) 0 (-1) 0 0 (gP 0) gS (Nat.lt_succ_self _) (by first | assumption | omega) (rfl) (Or.inl ⟨rfl, rfl, rfl, rfl⟩) (by first | assumption | omega) _ _ (jP.sub [0, 1, 2] rfl) (jD.sub [0, 1, 2] (by decide) rfl) jS _ (lv_sub jl [6, 7, 5, 4, 3, 2, 1, 0] rfl)
abbrev rm_Share_numberCells : Room := { frames := 5, cells := 0, slots := 0, locals := 108 }
set_option maxHeartbeats 4000000 in
set_option maxRecDepth 100000 in
theorem c_Share_numberCells (l : Launch) (D : va_G) (cI cB cZ : ClassId) (sz : Nat) (h : Nat) (pP : Nat) (pS : Nat) (pB : Nat) (pA : Nat) (pC : Nat) (pF : Nat) (pN : Nat) (o : Nat) (gP : Nat → Int) (gS : Nat → Int) (gB : Nat → Int) (gA : Nat → Int) (gC : Nat → Int) (gF : Nat → Int) (gN : Nat → Int) (ho : 5 ≤ o ∧ o ≤ 12) (hpr : ∀ k, k < 256 → -1 ≤ gP k ∧ gP k ≤ 65536) (hsum : cum gP 256 = 2 ^ o) (hgs : ∀ k : Nat, (k : Int) < 2 ^ o → 0 ≤ gS k ∧ gS k < 256) (hcn : ∀ s : Nat, s < 256 → cntS gS s (2 ^ o) ≤ wgt (gP s)) (hF : ∀ k, k < 256 → gF k = cum gP k) (hN : ∀ k, k < 256 → gN k = wgt (gP k)) : Met l y_Share_numberCells (.code y_Share_numberCells b_Share_numberCells 3 none :: zT) rm_Share_numberCells (zPc D classes (TY cI cB cZ) [(h, .inr (1, [.ref pP, .ref pS, .ref pB, .ref pA, .ref pC, .ref pF, .ref pN, .int (iZ (o : Int))])), (pP, .inl (cI, 256, .inl (zA gP))), (pS, .inl (cI, 4096, .inl (zA gS))), (pB, .inl (cI, 4096, .inl (zA gB))), (pA, .inl (cI, 4096, .inl (zA gA))), (pC, .inl (cI, 4096, .inl (zA gC))), (pF, .inl (cI, 256, .inl (zA gF))), (pN, .inl (cI, 256, .inl (zA gN)))] sz [.ref h]) (zFv (S := (Nat → Int) × (Nat → Int) × (Nat → Int) × (Nat → Int)) D classes (fun u => numT4 gP gS o (2 ^ o) u.1 u.2.1 u.2.2.1) (fun u => [(h, .inr (1, [.ref pP, .ref pS, .ref pB, .ref pA, .ref pC, .ref pF, .ref pN, .int (iZ (o : Int))])), (pP, .inl (cI, 256, .inl (zA gP))), (pS, .inl (cI, 4096, .inl (zA gS))), (pB, .inl (cI, 4096, .inl (zA u.1))), (pA, .inl (cI, 4096, .inl (zA u.2.1))), (pC, .inl (cI, 4096, .inl (zA u.2.2.1))), (pF, .inl (cI, 256, .inl (zA gF))), (pN, .inl (cI, 256, .inl (zA u.2.2.2)))]) (va_A [(h, .inr (1, [.ref pP, .ref pS, .ref pB, .ref pA, .ref pC, .ref pF, .ref pN, .int (iZ (o : Int))])), (pP, .inl (cI, 256, .inl (zA gP))), (pS, .inl (cI, 4096, .inl (zA gS))), (pB, .inl (cI, 4096, .inl (zA gB))), (pA, .inl (cI, 4096, .inl (zA gA))), (pC, .inl (cI, 4096, .inl (zA gC))), (pF, .inl (cI, 256, .inl (zA gF))), (pN, .inl (cI, 256, .inl (zA gN)))] sz)) 0 0 (va_A [(h, .inr (1, [.ref pP, .ref pS, .ref pB, .ref pA, .ref pC, .ref pF, .ref pN, .int (iZ (o : Int))])), (pP, .inl (cI, 256, .inl (zA gP))), (pS, .inl (cI, 4096, .inl (zA gS))), (pB, .inl (cI, 4096, .inl (zA gB))), (pA, .inl (cI, 4096, .inl (zA gA))), (pC, .inl (cI, 4096, .inl (zA gC))), (pF, .inl (cI, 256, .inl (zA gF))), (pN, .inl (cI, 256, .inl (zA gN)))] sz) := by
  refine z_ofv (by decide) (Nat.le_of_ble_eq_true rfl) rfl ?_
  intro p e s m args below meth c A Q E jmn jA jK jret H locs jP jD jS ls jl
  obtain ⟨jx, jb, jrt, jml, jown, jts, jlk⟩ := E
  have jown : s.vm.findClass R_Share = some m.cls := jown
  have hp12 := p2_le ho.2
  have hp0 := p2_pos o
  have hpn := p2n o
  have jl : lv_has ls 3 [(0, .ref h)] := jl
  refine lv_iconst (v := iZ 0) jx jb d_Share_numberCells_0 rfl ?_
  refine lv_istore_n (lv' := [(1, .int (iZ 0)), (0, .ref h)]) jx jb d_Share_numberCells_1 rfl jl (by decide) rfl (fun ls jl => ?_)
  have hloop2 : ∀ (nF : Nat) (k : Nat) (b2 : Nat → Int) (a2 : Nat → Int) (c2 : Nat → Int) (n2 : Nat → Int), 2 ^ o - k < nF → ((k : Int) ≤ 2 ^ o) → (numT4 gP gS o k b2 a2 c2) → (∀ s : Nat, s < 256 → n2 s = wgt (gP s) + cntS gS s k) → ∀ (H : Heap) (locs : List Loc), va_P D classes [(h, .inr (1, [.ref pP, .ref pS, .ref pB, .ref pA, .ref pC, .ref pF, .ref pN, .int (iZ (o : Int))])), (pP, .inl (cI, 256, .inl (zA gP))), (pS, .inl (cI, 4096, .inl (zA gS))), (pB, .inl (cI, 4096, .inl (zA b2))), (pA, .inl (cI, 4096, .inl (zA a2))), (pC, .inl (cI, 4096, .inl (zA c2))), (pF, .inl (cI, 256, .inl (zA gF))), (pN, .inl (cI, 256, .inl (zA n2)))] H → va_D A [(h, .inr (1, [.ref pP, .ref pS, .ref pB, .ref pA, .ref pC, .ref pF, .ref pN, .int (iZ (o : Int))])), (pP, .inl (cI, 256, .inl (zA gP))), (pS, .inl (cI, 4096, .inl (zA gS))), (pB, .inl (cI, 4096, .inl (zA b2))), (pA, .inl (cI, 4096, .inl (zA a2))), (pC, .inl (cI, 4096, .inl (zA c2))), (pF, .inl (cI, 256, .inl (zA gF))), (pN, .inl (cI, 256, .inl (zA n2)))] → va_S A s.heap H locs → ∀ ls : Array Slot, lv_has ls 3 [(0, .ref h), (1, .int (iZ (k : Int)))] → W p l e rm_Share_numberCells s m args below meth c H locs 0 0 Q (F0 m 2 ls []) := by
    intro nF
    induction nF with
    | zero => intro k b2 a2 c2 n2 hm; exact absurd hm (Nat.not_lt_zero _)
    | succ nF ih2 =>
      intro k b2 a2 c2 n2 hm hk h1 h2 H locs jP jD jS ls jl
      refine lv_iload_n jx jb d_Share_numberCells_2 rfl (lv_at jl 1 rfl) ?_
      refine lv_aload_n jx jb d_Share_numberCells_3 rfl (lv_at jl 0 rfl) ?_
      refine z_backe (va_runV (As := []) (rest := [.int (iZ (k : Int))]) ⟨jx, jb, jml, jown, jts⟩ (c_Share_cells l D cI cB cZ h pP pS pB pA pC pF pN o (ho.2)) (zc_V 0 jts cd_Share_cells lk_Share_41 im_Share_cells se_Share_cells in_Share hd_Share_cells ⟨Nat.le_of_ble_eq_true rfl, Nat.le_of_ble_eq_true rfl⟩ rfl rfl) (z_preVR jK jP [0] rfl rfl rfl) rfl rfl jl.1 rfl (lv_room (Nat.le_of_ble_eq_true rfl)) d_Share_numberCells_4 ⟨Nat.le_of_ble_eq_true rfl, Nat.le_of_ble_eq_true rfl⟩) ?_
      refine z_icmp_ge (tgt := 59) jx jb d_Share_numberCells_7 (by decide) ⟨⟨by omega, by omega⟩, ⟨by omega, by omega⟩⟩ (fun hc7 => ?_) (fun hc7 => ?_)
      ·
        exact jret _ _ (b2, a2, c2, n2) _ _ (by rw [show (2 ^ o : Nat) = k by omega]; exact h1) (jP.sub [0, 1, 2, 3, 4, 5, 6, 7] rfl) (jD.sub [0, 1, 2, 3, 4, 5, 6, 7] (by decide) rfl) jS d_Share_numberCells_59
      ·
        refine lv_iload_n jx jb d_Share_numberCells_10 rfl (lv_at jl 1 rfl) ?_
        refine lv_sipush (v := iZ 4096) jx jb d_Share_numberCells_11 (by decide) ?_
        refine z_icmp_ge (tgt := 59) jx jb d_Share_numberCells_14 (by decide) ⟨⟨by omega, by omega⟩, ⟨by decide, by decide⟩⟩ (fun hc14 => ?_) (fun hc14 => ?_)
        ·
          exfalso; omega
        ·
          refine lv_aload_n jx jb d_Share_numberCells_17 rfl (lv_at jl 0 rfl) ?_
          refine va_get (D := D) (ci := 1) (v := .ref pS) (C := R_Share) (T := F_Share) (N := 8) jx jb jts i_Share jown jK.1 jP 0 rfl rfl 1 (by decide) (jts _ fl_Share_15) (fun _ h9 => h9) rfl d_Share_numberCells_18 ?_
          refine lv_iload_n jx jb d_Share_numberCells_21 rfl (lv_at jl 1 rfl) ?_
          refine z_iald jx jb jK.1 jP 2 0 rfl rfl k (by omega) d_Share_numberCells_22 ?_
          refine lv_istore_n (lv' := [(2, .int (iZ (gS k))), (0, .ref h), (1, .int (iZ (k : Int)))]) jx jb d_Share_numberCells_23 rfl jl (by decide) rfl (fun ls jl => ?_)
          refine lv_iload_n jx jb d_Share_numberCells_24 rfl (lv_at jl 0 rfl) ?_
          have hgk := hgs k (by omega)
          refine z_backr (va_runSN (As := [.int (iZ (gS k))]) (rest := []) ⟨jx, jb, jml, jown, jts⟩ (c_isSymbol l D cI cB cZ (gS k) (by first | assumption | omega)) (zc_SN 1 jts cd_SC_isSymbol (jK.nest ln_Share_45 rfl) st_SC_isSymbol in_SC hd_SC_isSymbol ⟨Nat.le_of_ble_eq_true rfl, Nat.le_of_ble_eq_true rfl⟩ rfl rfl) (z_preSR jK jP [] rfl) rfl rfl jl.1 rfl (lv_room (Nat.le_of_ble_eq_true rfl)) d_Share_numberCells_25 ⟨Nat.le_of_ble_eq_true rfl, Nat.le_of_ble_eq_true rfl⟩) (fun z25 hz25 => ?_)
          rcases hz25 with ⟨rfl, hq25⟩ | ⟨rfl, hq25⟩
          ·
            obtain ⟨v, hvv⟩ : ∃ v : Nat, gS k = (v : Int) := ⟨(gS k).toNat, by omega⟩
            have hv6 : v < 256 := by omega
            have hnv := h2 v hv6
            have hcl := cntS_lo gS v k
            have hct := cnt_lt hvv (show k < 2 ^ o by omega)
            have hcv := hcn v hv6
            have hfit := cum_fit hpr (y := v) hv6
            have hcum := cum_lo hpr (b := v) (by omega)
            have hFv := hF v hv6
            have hwb := wgt_b (hpr v hv6)
            have hps := p2_s o
            have hvn : (gS k).toNat = v := by omega
            refine z_if_eq (tgt := 53) jx jb d_Share_numberCells_28 (by decide) ⟨by decide, by decide⟩ (fun hc28 => ?_) (fun hc28 => ?_)
            ·
              exact absurd hc28 (by decide)
            ·
              refine lv_aload_n jx jb d_Share_numberCells_31 rfl (lv_at jl 1 rfl) ?_
              refine lv_iload_n jx jb d_Share_numberCells_32 rfl (lv_at jl 2 rfl) ?_
              refine lv_iload_n jx jb d_Share_numberCells_33 rfl (lv_at jl 0 rfl) ?_
              refine lv_aload_n jx jb d_Share_numberCells_34 rfl (lv_at jl 1 rfl) ?_
              refine va_get (D := D) (ci := 1) (v := .ref pN) (C := R_Share) (T := F_Share) (N := 8) jx jb jts i_Share jown jK.1 jP 0 rfl rfl 6 (by decide) (jts _ fl_Share_30) (fun _ h9 => h9) rfl d_Share_numberCells_35 ?_
              refine lv_iload_n jx jb d_Share_numberCells_38 rfl (lv_at jl 0 rfl) ?_
              refine z_iald jx jb jK.1 jP 7 0 rfl rfl ((gS k).toNat) (by omega) d_Share_numberCells_39 ?_
              refine z_top (wgt (gP v) + cntS gS v k) (by rw [hvn]; exact hnv) ?_
              refine z_backv (wr := [(pS, .inl (cI, 4096, .inl (zA gS))), (pN, .inl (cI, 256, .inl (zA n2)))]) jP jD jS jA [0, 1, 6, 5, 3, 4] [2, 7] rfl rfl (by decide) (by decide) (va_runV (As := [.int (iZ (k : Int)), .int (iZ (gS k)), .int (iZ (wgt (gP v) + cntS gS v k))]) (rest := []) ⟨jx, jb, jml, jown, jts⟩ (c_Share_giveNumber l D cI cB cZ H.size h pP pS pB pA pC pF pN o gP gF c2 b2 a2 (k : Int) (gS k) (wgt (gP v) + cntS gS v k) (ho.2) (by first | assumption | omega) (by first | assumption | omega) (by first | assumption | omega) (by first | assumption | omega) (by rw [hvn]; omega) (by omega)) (zc_V 3 jts cd_Share_giveNumber lk_Share_79 im_Share_giveNumber se_Share_giveNumber in_Share hd_Share_giveNumber ⟨Nat.le_of_ble_eq_true rfl, Nat.le_of_ble_eq_true rfl⟩ rfl rfl) (z_preV jK jP jD [0, 1, 6, 5, 3, 4] (by decide) rfl rfl rfl rfl) rfl rfl jl.1 rfl (lv_room (Nat.le_of_ble_eq_true rfl)) d_Share_numberCells_40 ⟨Nat.le_of_ble_eq_true rfl, Nat.le_of_ble_eq_true rfl⟩) (fun u40 H locs hu40 jP jD jS => ?_)
              have jP : va_P D classes [(h, .inr (1, [.ref pP, .ref pS, .ref pB, .ref pA, .ref pC, .ref pF, .ref pN, .int (iZ (o : Int))])), (pP, .inl (cI, 256, .inl (zA gP))), (pS, .inl (cI, 4096, .inl (zA gS))), (pB, .inl (cI, 4096, .inl (zA (zu b2 (k : Int).toNat ((o : Int) - (zlog (wgt (gP v) + cntS gS v k) : Int)))))), (pA, .inl (cI, 4096, .inl (zA (zu a2 (k : Int).toNat ((wgt (gP v) + cntS gS v k) * 2 ^ (o - zlog (wgt (gP v) + cntS gS v k)) - 2 ^ o))))), (pC, .inl (cI, 4096, .inl (zA (zu c2 (gF (gS k).toNat + (wgt (gP v) + cntS gS v k) - wgt (gP (gS k).toNat)).toNat (k : Int))))), (pF, .inl (cI, 256, .inl (zA gF))), (pN, .inl (cI, 256, .inl (zA n2)))] H := jP.sub [2, 3, 0, 6, 7, 5, 4, 1] rfl
              have jD : va_D A [(h, .inr (1, [.ref pP, .ref pS, .ref pB, .ref pA, .ref pC, .ref pF, .ref pN, .int (iZ (o : Int))])), (pP, .inl (cI, 256, .inl (zA gP))), (pS, .inl (cI, 4096, .inl (zA gS))), (pB, .inl (cI, 4096, .inl (zA (zu b2 (k : Int).toNat ((o : Int) - (zlog (wgt (gP v) + cntS gS v k) : Int)))))), (pA, .inl (cI, 4096, .inl (zA (zu a2 (k : Int).toNat ((wgt (gP v) + cntS gS v k) * 2 ^ (o - zlog (wgt (gP v) + cntS gS v k)) - 2 ^ o))))), (pC, .inl (cI, 4096, .inl (zA (zu c2 (gF (gS k).toNat + (wgt (gP v) + cntS gS v k) - wgt (gP (gS k).toNat)).toNat (k : Int))))), (pF, .inl (cI, 256, .inl (zA gF))), (pN, .inl (cI, 256, .inl (zA n2)))] := jD.sub [2, 3, 0, 6, 7, 5, 4, 1] (by decide) rfl
              refine lv_aload_n jx jb d_Share_numberCells_43 rfl (lv_at jl 1 rfl) ?_
              refine va_get (D := D) (ci := 1) (v := .ref pN) (C := R_Share) (T := F_Share) (N := 8) jx jb jts i_Share jown jK.1 jP 0 rfl rfl 6 (by decide) (jts _ fl_Share_30) (fun _ h9 => h9) rfl d_Share_numberCells_44 ?_
              refine lv_iload_n jx jb d_Share_numberCells_47 rfl (lv_at jl 0 rfl) ?_
              refine lv_dup2_11 jx jb d_Share_numberCells_48 rfl rfl ?_
              refine z_iald jx jb jK.1 jP 7 0 rfl rfl v (by omega) d_Share_numberCells_49 ?_
              refine lv_iconst (v := iZ 1) jx jb d_Share_numberCells_50 rfl ?_
              refine z_iadd jx jb d_Share_numberCells_51 ?_
              refine z_iast jx jb jK.1 jP jD jS 7 0 rfl rfl v (by omega) d_Share_numberCells_52 (fun H locs jP jD jS => ?_)
              have jP : va_P D classes [(h, .inr (1, [.ref pP, .ref pS, .ref pB, .ref pA, .ref pC, .ref pF, .ref pN, .int (iZ (o : Int))])), (pP, .inl (cI, 256, .inl (zA gP))), (pS, .inl (cI, 4096, .inl (zA gS))), (pB, .inl (cI, 4096, .inl (zA (zu b2 (k : Int).toNat ((o : Int) - (zlog (wgt (gP v) + cntS gS v k) : Int)))))), (pA, .inl (cI, 4096, .inl (zA (zu a2 (k : Int).toNat ((wgt (gP v) + cntS gS v k) * 2 ^ (o - zlog (wgt (gP v) + cntS gS v k)) - 2 ^ o))))), (pC, .inl (cI, 4096, .inl (zA (zu c2 (gF (gS k).toNat + (wgt (gP v) + cntS gS v k) - wgt (gP (gS k).toNat)).toNat (k : Int))))), (pF, .inl (cI, 256, .inl (zA gF))), (pN, .inl (cI, 256, .inl (zA (zu n2 v ((n2 v) + 1)))))] H := jP
              have jD : va_D A [(h, .inr (1, [.ref pP, .ref pS, .ref pB, .ref pA, .ref pC, .ref pF, .ref pN, .int (iZ (o : Int))])), (pP, .inl (cI, 256, .inl (zA gP))), (pS, .inl (cI, 4096, .inl (zA gS))), (pB, .inl (cI, 4096, .inl (zA (zu b2 (k : Int).toNat ((o : Int) - (zlog (wgt (gP v) + cntS gS v k) : Int)))))), (pA, .inl (cI, 4096, .inl (zA (zu a2 (k : Int).toNat ((wgt (gP v) + cntS gS v k) * 2 ^ (o - zlog (wgt (gP v) + cntS gS v k)) - 2 ^ o))))), (pC, .inl (cI, 4096, .inl (zA (zu c2 (gF (gS k).toNat + (wgt (gP v) + cntS gS v k) - wgt (gP (gS k).toNat)).toNat (k : Int))))), (pF, .inl (cI, 256, .inl (zA gF))), (pN, .inl (cI, 256, .inl (zA (zu n2 v ((n2 v) + 1)))))] := jD
              refine lv_iinc (v := iZ ((k : Int) + 1)) (lv' := [(1, .int (iZ ((k : Int) + 1))), (2, .int (iZ (gS k))), (0, .ref h)]) jx jb d_Share_numberCells_53 jl (k := 2) rfl (iZ_add _ _) (by decide) rfl (fun ls jl => ?_)
              refine lv_goto (tgt := 2) jx jb d_Share_numberCells_56 (by decide) ?_
              exact ih2 (k + 1) (zu b2 (k : Int).toNat ((o : Int) - (zlog (wgt (gP v) + cntS gS v k) : Int))) (zu a2 (k : Int).toNat ((wgt (gP v) + cntS gS v k) * 2 ^ (o - zlog (wgt (gP v) + cntS gS v k)) - 2 ^ o)) (zu c2 (gF (gS k).toNat + (wgt (gP v) + cntS gS v k) - wgt (gP (gS k).toNat)).toNat (k : Int)) (zu n2 v ((n2 v) + 1)) (by omega) (by first | assumption | omega) (numT4_s h1 hpr hsum hgs hcn (by omega) hvv hF) (numN_s h2 hvv (by omega)) _ _ (jP.sub [0, 1, 2, 3, 4, 5, 6, 7] rfl) (jD.sub [0, 1, 2, 3, 4, 5, 6, 7] (by decide) rfl) jS _ (lv_sub jl [2, 0] rfl)
          ·
            exfalso; omega
  exact hloop2 ((2 ^ o - 0) + 1) 0 gB gA gC gN (Nat.lt_succ_self _) (by first | assumption | omega) (numT4_0) (fun s hs => by rw [hN s hs]; exact (Int.add_zero _).symm) _ _ (jP.sub [0, 1, 2, 3, 4, 5, 6, 7] rfl) (jD.sub [0, 1, 2, 3, 4, 5, 6, 7] (by decide) rfl) jS _ (lv_sub jl [1, 0] rfl)
end
section
/-! sums, and counting by another order -/
def sm (f : Nat → Int) : Nat → Int
  | 0 => 0
  | n + 1 => sm f n + f n
theorem sm_congr {f g : Nat → Int} : ∀ {n : Nat}, (∀ k, k < n → f k = g k) → sm f n = sm g n
  | 0, _ => rfl
  | n + 1, h => by
    show sm f n + f n = sm g n + g n
    rw [sm_congr (fun k hk => h k (by omega)), h n (by omega)]
theorem sm_add (f g : Nat → Int) : ∀ n : Nat, sm (fun k => f k + g k) n = sm f n + sm g n
  | 0 => rfl
  | n + 1 => by
    show sm (fun k => f k + g k) n + (f n + g n) = sm f n + f n + (sm g n + g n)
    rw [sm_add f g n]
    omega
theorem sm_zero {f : Nat → Int} : ∀ {n : Nat}, (∀ k, k < n → f k = 0) → sm f n = 0
  | 0, _ => rfl
  | n + 1, h => by
    show sm f n + f n = 0
    rw [sm_zero (fun k hk => h k (by omega)), h n (by omega)]
    rfl
theorem sm_one {f : Nat → Int} {a : Nat} : ∀ {n : Nat}, a < n → sm (fun k => if k = a then f k else 0) n = f a
  | 0, h => absurd h (by omega)
  | n + 1, h => by
    show sm (fun k => if k = a then f k else 0) n + (if n = a then f n else 0) = f a
    by_cases e : n = a
    · rw [if_pos e, sm_zero (fun k hk => if_neg (by omega)), e]
      omega
    · rw [if_neg e, sm_one (by omega)]
      omega
theorem sm_swap (F : Nat → Nat → Int) (n : Nat) : ∀ m : Nat, sm (fun j => sm (fun c => F j c) n) m = sm (fun c => sm (fun j => F j c) m) n
  | 0 => (sm_zero (fun _ _ => rfl)).symm
  | m + 1 => by
    show sm (fun j => sm (fun c => F j c) n) m + sm (fun c => F m c) n = _
    rw [sm_swap F n m, ← sm_add]
    rfl
theorem sm_perm {si ta : Nat → Nat} {N : Nat} (h1 : ∀ j, j < N → si j < N) (h2 : ∀ c, c < N → ta c < N) (h3 : ∀ c, c < N → si (ta c) = c) (h4 : ∀ j, j < N → ta (si j) = j) (f : Nat → Int) : sm (fun j => f (si j)) N = sm f N := by
  have e1 : sm (fun j => f (si j)) N = sm (fun j => sm (fun c => if c = si j then f c else 0) N) N := sm_congr (fun j hj => (sm_one (h1 j hj)).symm)
  rw [e1, sm_swap]
  refine sm_congr (fun c hc => ?_)
  have e2 : sm (fun j => if c = si j then f c else 0) N = sm (fun j => if j = ta c then (fun _ => f c) j else 0) N := sm_congr (fun j hj => by
    by_cases e : c = si j
    · rw [if_pos e, if_pos (by rw [e, h4 j hj])]
    · rw [if_neg e, if_neg (fun q => e (by rw [q, h3 c hc]))])
  rw [e2, sm_one (f := fun _ => f c) (h2 c hc)]
theorem cntS_sm (g : Nat → Int) (v : Int) : ∀ n : Nat, cntS g v n = sm (fun k => if g k = v then 1 else 0) n
  | 0 => rfl
  | n + 1 => by
    show cntS g v n + (if g n = v then 1 else 0) = sm (fun k => if g k = v then 1 else 0) n + (if g n = v then 1 else 0)
    rw [cntS_sm g v n]
/-! the steps over the cells come to each cell once -/
def inv_ (o : Nat) : Nat := match o with
  | 5 => 7 | 6 => 3 | 7 => 91 | 8 => 11 | 9 => 363 | 10 => 43 | 11 => 1451 | _ => 171
theorem inv_ok : ∀ o : Fin 13, 5 ≤ (o : Nat) → (inv_ o * stp o) % 2 ^ (o : Nat) = 1 := by decide +kernel
theorem cel_inv {o c : Nat} (h5 : 5 ≤ o ∧ o ≤ 12) (hc : c < 2 ^ o) : cel o (c * inv_ o % 2 ^ o) = c := by
  have h := inv_ok ⟨o, by omega⟩ h5.1
  unfold cel
  rw [Nat.mod_mul_mod, Nat.mul_assoc, Nat.mul_mod, show inv_ o * stp o % 2 ^ o = 1 from h, Nat.mul_one, Nat.mod_mod, Nat.mod_eq_of_lt hc]
theorem inv_cel {o j : Nat} (h5 : 5 ≤ o ∧ o ≤ 12) (hj : j < 2 ^ o) : cel o j * inv_ o % 2 ^ o = j := by
  have h := inv_ok ⟨o, by omega⟩ h5.1
  unfold cel
  rw [Nat.mod_mul_mod, Nat.mul_assoc, Nat.mul_comm (stp o), Nat.mul_mod, show inv_ o * stp o % 2 ^ o = 1 from h, Nat.mul_one, Nat.mod_mod, Nat.mod_eq_of_lt hj]
theorem cel_inj {o i j : Nat} (h5 : 5 ≤ o ∧ o ≤ 12) (hi : i < 2 ^ o) (hj : j < 2 ^ o) (h : cel o i = cel o j) : i = j := by
  rw [← inv_cel h5 hi, ← inv_cel h5 hj, h]
theorem cel_sum {o : Nat} (h5 : 5 ≤ o ∧ o ≤ 12) (f : Nat → Int) : sm (fun j => f (cel o j)) (2 ^ o) = sm f (2 ^ o) :=
  sm_perm (ta := fun c => c * inv_ o % 2 ^ o) (fun j _ => cel_lt o j) (fun c _ => Nat.mod_lt _ (Nat.pow_pos (by decide))) (fun c hc => cel_inv h5 hc) (fun j hj => inv_cel h5 hj) f
/-! how many cells each symbol gets -/
def pos (x : Int) : Int := if 0 < x then x else 0
theorem pos_0 (x : Int) : 0 ≤ pos x := by unfold pos; split <;> omega
theorem pos_p {x : Int} (h : 0 ≤ x) : pos x = x := by unfold pos; split <;> omega
theorem pos_n {x : Int} (h : x ≤ 0) : pos x = 0 := by unfold pos; split <;> omega
def cumP (pt : Nat → Int) : Nat → Int
  | 0 => 0
  | n + 1 => cumP pt n + pos (pt n)
theorem cumP_mono {pt : Nat → Int} {a : Nat} : ∀ {b : Nat}, a ≤ b → cumP pt a ≤ cumP pt b
  | 0, h => by rw [show a = 0 by omega]; exact Int.le_refl _
  | b + 1, h => by
    by_cases e : a = b + 1
    · rw [e]; exact Int.le_refl _
    · have h1 := cumP_mono (pt := pt) (a := a) (b := b) (by omega)
      have h2 := pos_0 (pt b)
      show _ ≤ cumP pt b + pos (pt b)
      omega
theorem cumP_flat {pt : Nat → Int} {a : Nat} : ∀ {b : Nat}, a ≤ b → (∀ v, a ≤ v → v < b → pt v ≤ 0) → cumP pt b = cumP pt a
  | 0, h, _ => by rw [show a = 0 by omega]
  | b + 1, h, hz => by
    by_cases e : a = b + 1
    · rw [e]
    · show cumP pt b + pos (pt b) = _
      rw [pos_n (hz b (by omega) (by omega)), cumP_flat (by omega) (fun v q1 q2 => hz v q1 (by omega)), Int.add_zero]
theorem adv_spec {pt : Nat → Int} : ∀ (n s : Nat) (l : Int), s ≤ 255 → 256 ≤ n + s → (s ≤ (adv pt n s l).1 ∧ (adv pt n s l).1 ≤ 255) ∧ ((adv pt n s l) = (s, l) ∨ (l ≤ 0 ∧ s < (adv pt n s l).1 ∧ (adv pt n s l).2 = pt (adv pt n s l).1 ∧ ∀ v, s < v → v < (adv pt n s l).1 → pt v ≤ 0)) ∧ (0 < (adv pt n s l).2 ∨ (adv pt n s l).1 = 255)
  | 0, s, l, h1, h2 => absurd h2 (by omega)
  | n + 1, s, l, h1, h2 => by
    by_cases e : l ≤ 0 ∧ s < 255
    · have ea : adv pt (n + 1) s l = adv pt n (s + 1) (pt (s + 1)) := if_pos e
      have ih := adv_spec (pt := pt) n (s + 1) (pt (s + 1)) (by omega) (by omega)
      rw [ea]
      refine ⟨⟨by omega, ih.1.2⟩, Or.inr ⟨e.1, by omega, ?_, ?_⟩, ih.2.2⟩
      · rcases ih.2.1 with q | q
        · rw [q]
        · exact q.2.2.1
      · intro v q1 q2
        rcases ih.2.1 with q | q
        · rw [q] at q2
          exact absurd q2 (by show ¬ v < s + 1; omega)
        · by_cases ev : v = s + 1
          · rw [ev]; exact q.1
          · exact q.2.2.2 v (by omega) q2
    · have ea : adv pt (n + 1) s l = (s, l) := if_neg e
      rw [ea]
      refine ⟨⟨Nat.le_refl s, h1⟩, Or.inl rfl, ?_⟩
      show 0 < l ∨ s = 255
      omega
/-- the symbol that the k-th step would give -/
def asg (pt : Nat → Int) (o : Nat) (e : Int) (t : Nat → Int) (k : Nat) : Nat := (adv pt 256 (sprd pt o e t k).2.1 (sprd pt o e t k).2.2).1
def Vn (o : Nat) (e : Int) (k : Nat) : Int := sm (fun j => if (cel o j : Int) < e then 1 else 0) k
def Wn (pt : Nat → Int) (o : Nat) (e : Int) (t : Nat → Int) (v k : Nat) : Int := sm (fun j => if (cel o j : Int) < e ∧ asg pt o e t j = v then 1 else 0) k
theorem Vn_mono {o : Nat} {e : Int} {a : Nat} : ∀ {b : Nat}, a ≤ b → Vn o e a ≤ Vn o e b
  | 0, h => by rw [show a = 0 by omega]; exact Int.le_refl _
  | b + 1, h => by
    by_cases q : a = b + 1
    · rw [q]; exact Int.le_refl _
    · have h1 := Vn_mono (o := o) (e := e) (a := a) (b := b) (by omega)
      show _ ≤ Vn o e b + (if (cel o b : Int) < e then 1 else 0)
      split <;> omega
def sI (pt : Nat → Int) (o : Nat) (e : Int) (t : Nat → Int) (k s : Nat) (l : Int) : Prop := s ≤ 255 ∧ cumP pt s + pos (pt s) - pos l = Vn o e k ∧ ∀ v, v < 256 → Wn pt o e t v k = if v < s then pos (pt v) else if v = s then pos (pt v) - pos l else 0
theorem sI_0 {pt t : Nat → Int} {o : Nat} {e : Int} : sI pt o e t 0 0 (pt 0) := by
  refine ⟨by omega, ?_, fun v hv => ?_⟩
  · show (0 : Int) + pos (pt 0) - pos (pt 0) = 0
    omega
  · show (0 : Int) = _
    rw [if_neg (by omega)]
    by_cases q : v = 0
    · rw [if_pos q, q]; omega
    · rw [if_neg q]
theorem sI_s {pt t : Nat → Int} {o k s : Nat} {e l : Int} (he : cumP pt 256 = e) (hV : (cel o k : Int) < e → Vn o e k < e) (hq : (sprd pt o e t k).2 = (s, l)) (h : sI pt o e t k s l) : sI pt o e t (k + 1) (sprd pt o e t (k + 1)).2.1 (sprd pt o e t (k + 1)).2.2 := by
  obtain ⟨h1, h2, h3⟩ := h
  by_cases hl : (cel o k : Int) < e
  · have hs := sprd_s (pt := pt) (t := t) (o := o) (k := k) (e := e) (t2 := (sprd pt o e t k).1) (s := s) (l := l) (s2 := (adv pt 256 s l).1) (l2 := (adv pt 256 s l).2) (by rw [← hq]) hl rfl
    rw [hs]
    show sI pt o e t (k + 1) (adv pt 256 s l).1 ((adv pt 256 s l).2 - 1)
    have ha := adv_spec (pt := pt) 256 s l h1 (by omega)
    have hasg : asg pt o e t k = (adv pt 256 s l).1 := by unfold asg; rw [hq]
    have hVl := hV hl
    have hVs : Vn o e (k + 1) = Vn o e k + 1 := by
      show Vn o e k + (if (cel o k : Int) < e then 1 else 0) = _
      rw [if_pos hl]
    have hWs : ∀ v, Wn pt o e t v (k + 1) = Wn pt o e t v k + (if (adv pt 256 s l).1 = v then 1 else 0) := by
      intro v
      show Wn pt o e t v k + (if (cel o k : Int) < e ∧ asg pt o e t k = v then 1 else 0) = _
      rw [hasg]
      by_cases q : (adv pt 256 s l).1 = v
      · rw [if_pos ⟨hl, q⟩, if_pos q]
      · rw [if_neg (fun z => q z.2), if_neg q]
    generalize adv pt 256 s l = T at ha hWs
    obtain ⟨s1, l1⟩ := T
    simp only at ha hWs ⊢
    obtain ⟨⟨a1, a2⟩, a3, a4⟩ := ha
    have key : cumP pt s1 + pos (pt s1) - pos l1 = Vn o e k ∧ 0 < l1 := by
      rcases a3 with q | ⟨q1, q2, q3, q4⟩
      · have q5 : s1 = s := congrArg Prod.fst q
        have q6 : l1 = l := congrArg Prod.snd q
        subst q5; subst q6
        refine ⟨h2, ?_⟩
        rcases a4 with z | z
        · exact z
        · subst z
          rcases (by omega : 0 < l1 ∨ l1 ≤ 0) with w | w
          · exact w
          · rw [pos_n w] at h2
            have e1 : cumP pt 256 = cumP pt 255 + pos (pt 255) := rfl
            omega
      · have e1 : cumP pt (s + 1) = cumP pt s + pos (pt s) := rfl
        have e2 := cumP_flat (pt := pt) (a := s + 1) (b := s1) (by omega) (fun v z1 z2 => q4 v (by omega) z2)
        rw [pos_n q1] at h2
        refine ⟨by rw [q3]; omega, ?_⟩
        rcases a4 with z | z
        · exact z
        · subst z
          rcases (by omega : 0 < l1 ∨ l1 ≤ 0) with w | w
          · exact w
          · have e3 : cumP pt 256 = cumP pt 255 + pos (pt 255) := rfl
            rw [← q3, pos_n w] at e3
            omega
    obtain ⟨k1, k2⟩ := key
    rw [pos_p (x := l1) (by omega)] at k1
    refine ⟨a2, by rw [hVs, pos_p (x := l1 - 1) (by omega)]; omega, fun v hv => ?_⟩
    rw [hWs v, h3 v hv, pos_p (x := l1 - 1) (by omega)]
    rcases a3 with q | ⟨q1, q2, q3, q4⟩
    · have q5 : s1 = s := congrArg Prod.fst q
      have q6 : l1 = l := congrArg Prod.snd q
      subst q5; subst q6
      rw [pos_p (x := l1) (by omega)]
      rcases (by omega : v < s1 ∨ v = s1 ∨ s1 < v) with z | z | z
      · rw [if_pos (show v < s1 by omega), if_neg (show ¬ s1 = v by omega)]; omega
      · rw [if_neg (show ¬ v < s1 by omega), if_pos (show v = s1 by omega), if_pos (show s1 = v by omega)]; omega
      · rw [if_neg (show ¬ v < s1 by omega), if_neg (show ¬ v = s1 by omega), if_neg (show ¬ s1 = v by omega)]; omega
    · rcases (by omega : v < s ∨ v = s ∨ (s < v ∧ v < s1) ∨ v = s1 ∨ s1 < v) with z | z | z | z | z
      · rw [if_pos (show v < s by omega), if_pos (show v < s1 by omega), if_neg (show ¬ s1 = v by omega)]; omega
      · rw [if_neg (show ¬ v < s by omega), if_pos (show v = s by omega), if_pos (show v < s1 by omega), if_neg (show ¬ s1 = v by omega), pos_n q1]; omega
      · rw [if_neg (show ¬ v < s by omega), if_neg (show ¬ v = s by omega), if_pos (show v < s1 by omega), if_neg (show ¬ s1 = v by omega), pos_n (q4 v z.1 z.2)]; rfl
      · rw [if_neg (show ¬ v < s by omega), if_neg (show ¬ v = s by omega), if_pos (show s1 = v by omega), if_neg (show ¬ v < s1 by omega), if_pos (show v = s1 by omega), z, ← q3, pos_p (show 0 ≤ l1 by omega)]; omega
      · rw [if_neg (show ¬ v < s by omega), if_neg (show ¬ v = s by omega), if_neg (show ¬ s1 = v by omega), if_neg (show ¬ v < s1 by omega), if_neg (show ¬ v = s1 by omega)]; rfl
  · have hs := sprd_n (pt := pt) (t := t) (o := o) (k := k) (e := e) (t2 := (sprd pt o e t k).1) (s := s) (l := l) (by rw [← hq]) (by omega)
    rw [hs]
    refine ⟨h1, ?_, fun v hv => ?_⟩
    · show _ = Vn o e k + (if (cel o k : Int) < e then 1 else 0)
      rw [if_neg hl]
      show cumP pt s + pos (pt s) - pos l = _
      omega
    · show Wn pt o e t v k + (if (cel o k : Int) < e ∧ asg pt o e t k = v then 1 else 0) = _
      rw [if_neg (fun z => hl z.1), Int.add_zero]
      exact h3 v hv
end
