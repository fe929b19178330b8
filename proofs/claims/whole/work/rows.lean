section
-- ===== PART A: goes FIRST, ahead of the names: the tables' words, and 'selects' of the private methods out of them =====
/-- a private method of a class that the tables say can be made, by its rows of tables_1 -/
def lw_okq (q : MethodName × Nat) : Prop := (q.1.cls ≠ "java/lang/invoke/MethodHandle" ∧ q.1.cls ≠ "java/lang/invoke/VarHandle") ∧ Cond.instantiable q.1.cls q.2 ∈ tables_1 ∧ Cond.privateMethod q.1 ∈ tables_1 ∧ Cond.instanceMethod q.1 ∈ tables_1
theorem lw_p0 : lw_okq (⟨"ScoreDifferences", "isSettled", "()Z"⟩, 6) := ⟨⟨by decide +kernel, by decide +kernel⟩, List.mem_of_getElem? (i := 12) (by decide +kernel), List.mem_of_getElem? (i := 168) (by decide +kernel), List.mem_of_getElem? (i := 169) (by decide +kernel)⟩
theorem lw_p1 : lw_okq (⟨"ScoreDifferences$Plan", "gain", "(I)J"⟩, 11) := ⟨⟨by decide +kernel, by decide +kernel⟩, List.mem_of_getElem? (i := 39) (by decide +kernel), List.mem_of_getElem? (i := 187) (by decide +kernel), List.mem_of_getElem? (i := 188) (by decide +kernel)⟩
theorem lw_p2 : lw_okq (⟨"ScoreDifferences$Rule", "eachAbove", "([II)J"⟩, 5) := ⟨⟨by decide +kernel, by decide +kernel⟩, List.mem_of_getElem? (i := 197) (by decide +kernel), List.mem_of_getElem? (i := 195) (by decide +kernel), List.mem_of_getElem? (i := 196) (by decide +kernel)⟩
theorem lw_p3 : lw_okq (⟨"ScoreDifferences$Rule", "crowds", "([II)J"⟩, 5) := ⟨⟨by decide +kernel, by decide +kernel⟩, List.mem_of_getElem? (i := 197) (by decide +kernel), List.mem_of_getElem? (i := 218) (by decide +kernel), List.mem_of_getElem? (i := 219) (by decide +kernel)⟩
theorem lw_p4 : lw_okq (⟨"ScoreDifferences", "planAt", "(I)LScoreDifferences$Plan;"⟩, 6) := ⟨⟨by decide +kernel, by decide +kernel⟩, List.mem_of_getElem? (i := 12) (by decide +kernel), List.mem_of_getElem? (i := 281) (by decide +kernel), List.mem_of_getElem? (i := 282) (by decide +kernel)⟩
theorem lw_p5 : lw_okq (⟨"ScoreDifferences$Table", "leads", "(II)Z"⟩, 2) := ⟨⟨by decide +kernel, by decide +kernel⟩, List.mem_of_getElem? (i := 45) (by decide +kernel), List.mem_of_getElem? (i := 312) (by decide +kernel), List.mem_of_getElem? (i := 313) (by decide +kernel)⟩
theorem lw_p6 : lw_okq (⟨"ScoreDifferences$Plan", "layOut", "(III)V"⟩, 11) := ⟨⟨by decide +kernel, by decide +kernel⟩, List.mem_of_getElem? (i := 39) (by decide +kernel), List.mem_of_getElem? (i := 325) (by decide +kernel), List.mem_of_getElem? (i := 326) (by decide +kernel)⟩
theorem lw_p7 : lw_okq (⟨"ScoreDifferences$Plan", "gainUnlessForgotten", "(I)J"⟩, 11) := ⟨⟨by decide +kernel, by decide +kernel⟩, List.mem_of_getElem? (i := 39) (by decide +kernel), List.mem_of_getElem? (i := 333) (by decide +kernel), List.mem_of_getElem? (i := 334) (by decide +kernel)⟩
theorem lw_p8 : lw_okq (⟨"ScoreDifferences$Plan", "moveOn", "()V"⟩, 11) := ⟨⟨by decide +kernel, by decide +kernel⟩, List.mem_of_getElem? (i := 39) (by decide +kernel), List.mem_of_getElem? (i := 346) (by decide +kernel), List.mem_of_getElem? (i := 347) (by decide +kernel)⟩
theorem lw_p9 : lw_okq (⟨"ScoreDifferences", "snapshotAt", "(I)LScoreDifferences$Snapshot;"⟩, 6) := ⟨⟨by decide +kernel, by decide +kernel⟩, List.mem_of_getElem? (i := 12) (by decide +kernel), List.mem_of_getElem? (i := 459) (by decide +kernel), List.mem_of_getElem? (i := 460) (by decide +kernel)⟩
theorem lw_p10 : lw_okq (⟨"ScoreDifferences$Plan", "countForgetting", "()I"⟩, 11) := ⟨⟨by decide +kernel, by decide +kernel⟩, List.mem_of_getElem? (i := 39) (by decide +kernel), List.mem_of_getElem? (i := 476) (by decide +kernel), List.mem_of_getElem? (i := 477) (by decide +kernel)⟩
theorem lw_p11 : lw_okq (⟨"ScoreDifferencesModel", "isBegun", "()Z"⟩, 28) := ⟨⟨by decide +kernel, by decide +kernel⟩, List.mem_of_getElem? (i := 484) (by decide +kernel), List.mem_of_getElem? (i := 579) (by decide +kernel), List.mem_of_getElem? (i := 580) (by decide +kernel)⟩
theorem lw_p12 : lw_okq (⟨"ScoreDifferencesModel", "remember", "(I)V"⟩, 28) := ⟨⟨by decide +kernel, by decide +kernel⟩, List.mem_of_getElem? (i := 484) (by decide +kernel), List.mem_of_getElem? (i := 583) (by decide +kernel), List.mem_of_getElem? (i := 584) (by decide +kernel)⟩
theorem lw_p13 : lw_okq (⟨"ScoreDifferencesModel", "worthOf", "(II)J"⟩, 28) := ⟨⟨by decide +kernel, by decide +kernel⟩, List.mem_of_getElem? (i := 484) (by decide +kernel), List.mem_of_getElem? (i := 587) (by decide +kernel), List.mem_of_getElem? (i := 588) (by decide +kernel)⟩
theorem lw_p14 : lw_okq (⟨"ScoreDifferencesModel", "at", "(III)I"⟩, 28) := ⟨⟨by decide +kernel, by decide +kernel⟩, List.mem_of_getElem? (i := 484) (by decide +kernel), List.mem_of_getElem? (i := 591) (by decide +kernel), List.mem_of_getElem? (i := 592) (by decide +kernel)⟩
theorem lw_p15 : lw_okq (⟨"ScoreDifferencesModel", "isPlan", "(I)Z"⟩, 28) := ⟨⟨by decide +kernel, by decide +kernel⟩, List.mem_of_getElem? (i := 484) (by decide +kernel), List.mem_of_getElem? (i := 608) (by decide +kernel), List.mem_of_getElem? (i := 609) (by decide +kernel)⟩
def lw_privs_1 : List (MethodName × Nat) := [(⟨"ScoreDifferences", "isSettled", "()Z"⟩, 6), (⟨"ScoreDifferences$Plan", "gain", "(I)J"⟩, 11), (⟨"ScoreDifferences$Rule", "eachAbove", "([II)J"⟩, 5), (⟨"ScoreDifferences$Rule", "crowds", "([II)J"⟩, 5), (⟨"ScoreDifferences", "planAt", "(I)LScoreDifferences$Plan;"⟩, 6), (⟨"ScoreDifferences$Table", "leads", "(II)Z"⟩, 2), (⟨"ScoreDifferences$Plan", "layOut", "(III)V"⟩, 11), (⟨"ScoreDifferences$Plan", "gainUnlessForgotten", "(I)J"⟩, 11), (⟨"ScoreDifferences$Plan", "moveOn", "()V"⟩, 11), (⟨"ScoreDifferences", "snapshotAt", "(I)LScoreDifferences$Snapshot;"⟩, 6), (⟨"ScoreDifferences$Plan", "countForgetting", "()I"⟩, 11), (⟨"ScoreDifferencesModel", "isBegun", "()Z"⟩, 28), (⟨"ScoreDifferencesModel", "remember", "(I)V"⟩, 28), (⟨"ScoreDifferencesModel", "worthOf", "(II)J"⟩, 28), (⟨"ScoreDifferencesModel", "at", "(III)I"⟩, 28), (⟨"ScoreDifferencesModel", "isPlan", "(I)Z"⟩, 28)]
theorem lw_r1 : ∀ q ∈ lw_privs_1, lw_okq q := List.forall_mem_cons.mpr ⟨lw_p0, List.forall_mem_cons.mpr ⟨lw_p1, List.forall_mem_cons.mpr ⟨lw_p2, List.forall_mem_cons.mpr ⟨lw_p3, List.forall_mem_cons.mpr ⟨lw_p4, List.forall_mem_cons.mpr ⟨lw_p5, List.forall_mem_cons.mpr ⟨lw_p6, List.forall_mem_cons.mpr ⟨lw_p7, List.forall_mem_cons.mpr ⟨lw_p8, List.forall_mem_cons.mpr ⟨lw_p9, List.forall_mem_cons.mpr ⟨lw_p10, List.forall_mem_cons.mpr ⟨lw_p11, List.forall_mem_cons.mpr ⟨lw_p12, List.forall_mem_cons.mpr ⟨lw_p13, List.forall_mem_cons.mpr ⟨lw_p14, List.forall_mem_cons.mpr ⟨lw_p15, fun _ h => absurd h List.not_mem_nil⟩⟩⟩⟩⟩⟩⟩⟩⟩⟩⟩⟩⟩⟩⟩⟩
theorem lw_p16 : lw_okq (⟨"ScoreDifferencesModel", "isRule", "(I)Z"⟩, 28) := ⟨⟨by decide +kernel, by decide +kernel⟩, List.mem_of_getElem? (i := 484) (by decide +kernel), List.mem_of_getElem? (i := 612) (by decide +kernel), List.mem_of_getElem? (i := 613) (by decide +kernel)⟩
theorem lw_p17 : lw_okq (⟨"ScoreDifferencesModel", "isFit", "(IIII)Z"⟩, 28) := ⟨⟨by decide +kernel, by decide +kernel⟩, List.mem_of_getElem? (i := 484) (by decide +kernel), List.mem_of_getElem? (i := 624) (by decide +kernel), List.mem_of_getElem? (i := 625) (by decide +kernel)⟩
theorem lw_p18 : lw_okq (⟨"ScoreDifferencesModel", "know", "(IIII)V"⟩, 28) := ⟨⟨by decide +kernel, by decide +kernel⟩, List.mem_of_getElem? (i := 484) (by decide +kernel), List.mem_of_getElem? (i := 628) (by decide +kernel), List.mem_of_getElem? (i := 629) (by decide +kernel)⟩
theorem lw_p19 : lw_okq (⟨"ScoreDifferencesModel", "put", "(IIII)V"⟩, 28) := ⟨⟨by decide +kernel, by decide +kernel⟩, List.mem_of_getElem? (i := 484) (by decide +kernel), List.mem_of_getElem? (i := 632) (by decide +kernel), List.mem_of_getElem? (i := 633) (by decide +kernel)⟩
theorem lw_p20 : lw_okq (⟨"ScoreDifferencesModel", "findEnds", "(I)V"⟩, 28) := ⟨⟨by decide +kernel, by decide +kernel⟩, List.mem_of_getElem? (i := 484) (by decide +kernel), List.mem_of_getElem? (i := 636) (by decide +kernel), List.mem_of_getElem? (i := 637) (by decide +kernel)⟩
theorem lw_p21 : lw_okq (⟨"ScoreDifferencesModel", "pairs", "(I)I"⟩, 28) := ⟨⟨by decide +kernel, by decide +kernel⟩, List.mem_of_getElem? (i := 484) (by decide +kernel), List.mem_of_getElem? (i := 640) (by decide +kernel), List.mem_of_getElem? (i := 641) (by decide +kernel)⟩
theorem lw_p22 : lw_okq (⟨"ScoreDifferencesModel", "firstFalse", "(I)I"⟩, 28) := ⟨⟨by decide +kernel, by decide +kernel⟩, List.mem_of_getElem? (i := 484) (by decide +kernel), List.mem_of_getElem? (i := 644) (by decide +kernel), List.mem_of_getElem? (i := 645) (by decide +kernel)⟩
theorem lw_p23 : lw_okq (⟨"ScoreDifferencesModel", "others", "(I)I"⟩, 28) := ⟨⟨by decide +kernel, by decide +kernel⟩, List.mem_of_getElem? (i := 484) (by decide +kernel), List.mem_of_getElem? (i := 648) (by decide +kernel), List.mem_of_getElem? (i := 649) (by decide +kernel)⟩
theorem lw_p24 : lw_okq (⟨"ScoreDifferencesModel", "scoreOf", "(II)J"⟩, 28) := ⟨⟨by decide +kernel, by decide +kernel⟩, List.mem_of_getElem? (i := 484) (by decide +kernel), List.mem_of_getElem? (i := 657) (by decide +kernel), List.mem_of_getElem? (i := 658) (by decide +kernel)⟩
theorem lw_p25 : lw_okq (⟨"ScoreDifferencesModel", "takeBack", "(I)V"⟩, 28) := ⟨⟨by decide +kernel, by decide +kernel⟩, List.mem_of_getElem? (i := 484) (by decide +kernel), List.mem_of_getElem? (i := 665) (by decide +kernel), List.mem_of_getElem? (i := 666) (by decide +kernel)⟩
def lw_privs_2 : List (MethodName × Nat) := [(⟨"ScoreDifferencesModel", "isRule", "(I)Z"⟩, 28), (⟨"ScoreDifferencesModel", "isFit", "(IIII)Z"⟩, 28), (⟨"ScoreDifferencesModel", "know", "(IIII)V"⟩, 28), (⟨"ScoreDifferencesModel", "put", "(IIII)V"⟩, 28), (⟨"ScoreDifferencesModel", "findEnds", "(I)V"⟩, 28), (⟨"ScoreDifferencesModel", "pairs", "(I)I"⟩, 28), (⟨"ScoreDifferencesModel", "firstFalse", "(I)I"⟩, 28), (⟨"ScoreDifferencesModel", "others", "(I)I"⟩, 28), (⟨"ScoreDifferencesModel", "scoreOf", "(II)J"⟩, 28), (⟨"ScoreDifferencesModel", "takeBack", "(I)V"⟩, 28)]
theorem lw_r2 : ∀ q ∈ lw_privs_2, lw_okq q := List.forall_mem_cons.mpr ⟨lw_p16, List.forall_mem_cons.mpr ⟨lw_p17, List.forall_mem_cons.mpr ⟨lw_p18, List.forall_mem_cons.mpr ⟨lw_p19, List.forall_mem_cons.mpr ⟨lw_p20, List.forall_mem_cons.mpr ⟨lw_p21, List.forall_mem_cons.mpr ⟨lw_p22, List.forall_mem_cons.mpr ⟨lw_p23, List.forall_mem_cons.mpr ⟨lw_p24, List.forall_mem_cons.mpr ⟨lw_p25, fun _ h => absurd h List.not_mem_nil⟩⟩⟩⟩⟩⟩⟩⟩⟩⟩
def lw_privs : List (MethodName × Nat) := lw_privs_1 ++ (lw_privs_2)
def lw_tbl : List Cond := k2_sels lw_privs ++ tables_1
theorem lw_privs_ok : ∀ q ∈ lw_privs, lw_okq q := by
  show ∀ q ∈ lw_privs_1 ++ (lw_privs_2), lw_okq q
  exact List.forall_mem_append.mpr ⟨lw_r1, lw_r2⟩
end
section
/-! ===== BEGIN printed: names, fields, word lists, decode rows ===== -/
def RX0 : String := "ScoreDifferences$History"
def TX0 : u_T := fun k => match k with
  | 0 => ("ScoreDifferences$History", "objects", "[I", true)
  | 1 => ("ScoreDifferences$History", "members", "[I", true)
  | 2 => ("ScoreDifferences$History", "numbers", "[I", true)
  | 3 => ("ScoreDifferences$History", "keptAt", "[[J", true)
  | 4 => ("ScoreDifferences$History", "next", "I", false)
  | _ => ("ScoreDifferences$History", "known", "I", false)
def tyX0 : Nat → FieldType := fun k => match k with
  | 0 => .array .int
  | 1 => .array .int
  | 2 => .array .int
  | 3 => .array (.array .long)
  | 4 => .int
  | _ => .int
abbrev wsX00 : List Cond := u_ws RX0 TX0 6
theorem nmX0 : ∀ a, a < 6 → ∀ b, b < 6 → a ≠ b → (TX0 a).2.1 ≠ (TX0 b).2.1 := by decide +kernel
theorem tyX0_ok : ∀ k, k < 6 → parseFieldDescriptor (TX0 k).2.2.1 = some (tyX0 k) := by decide +kernel
abbrev cX0_init : ByteArray := prog_2_method_1_code
def yX0_init : MethodName := ⟨RX0, "<init>", "()V"⟩
abbrev cX0_push : ByteArray := prog_2_method_2_code
def yX0_push : MethodName := ⟨RX0, "push", "(III[J)V"⟩
abbrev cX0_pop : ByteArray := prog_2_method_3_code
def yX0_pop : MethodName := ⟨RX0, "pop", "()I"⟩
def RX1 : String := "ScoreDifferences$Plan"
def TX1 : u_T := fun k => match k with
  | 0 => ("ScoreDifferences$Plan", "book", "LScoreDifferences$Rulebook;", true)
  | 1 => ("ScoreDifferences$Plan", "now", "LScoreDifferences$Table;", true)
  | 2 => ("ScoreDifferences$Plan", "behind", "LScoreDifferences$Table;", true)
  | 3 => ("ScoreDifferences$Plan", "keptAt", "[J", true)
  | 4 => ("ScoreDifferences$Plan", "forgets", "[Z", true)
  | 5 => ("ScoreDifferences$Plan", "history", "LScoreDifferences$History;", true)
  | 6 => ("ScoreDifferences$Plan", "changes", "I", false)
  | 7 => ("ScoreDifferences$Plan", "cost", "I", false)
  | 8 => ("ScoreDifferences$Plan", "foundFalse", "I", false)
  | 9 => ("ScoreDifferences$Plan", "batchBegun", "Z", false)
  | _ => ("ScoreDifferences$Plan", "batchKnown", "I", false)
def tyX1 : Nat → FieldType := fun k => match k with
  | 0 => .object "ScoreDifferences$Rulebook"
  | 1 => .object "ScoreDifferences$Table"
  | 2 => .object "ScoreDifferences$Table"
  | 3 => .array .long
  | 4 => .array .boolean
  | 5 => .object "ScoreDifferences$History"
  | 6 => .int
  | 7 => .int
  | 8 => .int
  | 9 => .boolean
  | _ => .int
abbrev wsX10 : List Cond := u_ws RX1 TX1 11
theorem nmX1 : ∀ a, a < 11 → ∀ b, b < 11 → a ≠ b → (TX1 a).2.1 ≠ (TX1 b).2.1 := by decide +kernel
theorem tyX1_ok : ∀ k, k < 11 → parseFieldDescriptor (TX1 k).2.2.1 = some (tyX1 k) := by decide +kernel
abbrev cX1_init : ByteArray := prog_3_method_1_code
def yX1_init : MethodName := ⟨RX1, "<init>", "(LScoreDifferences$Rulebook;)V"⟩
abbrev cX1_becomeLike : ByteArray := prog_3_method_2_code
def yX1_becomeLike : MethodName := ⟨RX1, "becomeLike", "(LScoreDifferences$Plan;)V"⟩
abbrev cX1_addObject : ByteArray := prog_3_method_3_code
def yX1_addObject : MethodName := ⟨RX1, "addObject", "()I"⟩
abbrev cX1_fromNothing : ByteArray := prog_3_method_4_code
def yX1_fromNothing : MethodName := ⟨RX1, "fromNothing", "(I)J"⟩
abbrev cX1_isFalse : ByteArray := prog_3_method_5_code
def yX1_isFalse : MethodName := ⟨RX1, "isFalse", "(I)Z"⟩
abbrev cX1_firstFalse : ByteArray := prog_3_method_6_code
def yX1_firstFalse : MethodName := ⟨RX1, "firstFalse", "()I"⟩
abbrev cX1_scoreNow : ByteArray := prog_3_method_7_code
def yX1_scoreNow : MethodName := ⟨RX1, "scoreNow", "(I)J"⟩
abbrev cX1_scoreBehind : ByteArray := prog_3_method_8_code
def yX1_scoreBehind : MethodName := ⟨RX1, "scoreBehind", "(IIII)J"⟩
abbrev cX1_makeChange : ByteArray := prog_3_method_9_code
def yX1_makeChange : MethodName := ⟨RX1, "makeChange", "(IIII)I"⟩
abbrev cX1_undoable : ByteArray := prog_3_method_10_code
def yX1_undoable : MethodName := ⟨RX1, "undoable", "()I"⟩
abbrev cX1_takeBack : ByteArray := prog_3_method_11_code
def yX1_takeBack : MethodName := ⟨RX1, "takeBack", "()V"⟩
abbrev cX1_closeBatch : ByteArray := prog_3_method_12_code
def yX1_closeBatch : MethodName := ⟨RX1, "closeBatch", "(Z)I"⟩
abbrev cX1_figure : ByteArray := prog_3_method_13_code
def yX1_figure : MethodName := ⟨RX1, "figure", "(I)I"⟩
abbrev cX1_countForgetting : ByteArray := prog_3_method_14_code
def yX1_countForgetting : MethodName := ⟨RX1, "countForgetting", "()I"⟩
abbrev cX1_layOut : ByteArray := prog_3_method_15_code
def yX1_layOut : MethodName := ⟨RX1, "layOut", "(III)V"⟩
abbrev cX1_moveOn : ByteArray := prog_3_method_16_code
def yX1_moveOn : MethodName := ⟨RX1, "moveOn", "()V"⟩
abbrev cX1_gainUnlessForgotten : ByteArray := prog_3_method_17_code
def yX1_gainUnlessForgotten : MethodName := ⟨RX1, "gainUnlessForgotten", "(I)J"⟩
abbrev cX1_gain : ByteArray := prog_3_method_18_code
def yX1_gain : MethodName := ⟨RX1, "gain", "(I)J"⟩
def RX2 : String := "ScoreDifferences$Rule"
def TX2 : u_T := fun k => match k with
  | 0 => ("ScoreDifferences$Rule", "kind", "I", true)
  | 1 => ("ScoreDifferences$Rule", "looksAt", "I", true)
  | 2 => ("ScoreDifferences$Rule", "bound", "I", true)
  | 3 => ("ScoreDifferences$Rule", "weight", "I", true)
  | _ => ("ScoreDifferences$Rule", "level", "I", true)
def tyX2 : Nat → FieldType := fun k => match k with
  | 0 => .int
  | 1 => .int
  | 2 => .int
  | 3 => .int
  | _ => .int
abbrev wsX20 : List Cond := u_ws RX2 TX2 5
theorem nmX2 : ∀ a, a < 5 → ∀ b, b < 5 → a ≠ b → (TX2 a).2.1 ≠ (TX2 b).2.1 := by decide +kernel
theorem tyX2_ok : ∀ k, k < 5 → parseFieldDescriptor (TX2 k).2.2.1 = some (tyX2 k) := by decide +kernel
abbrev cX2_init : ByteArray := prog_4_method_1_code
def yX2_init : MethodName := ⟨RX2, "<init>", "(IIIII)V"⟩
abbrev cX2_fromNothing : ByteArray := prog_4_method_2_code
def yX2_fromNothing : MethodName := ⟨RX2, "fromNothing", "(LScoreDifferences$Table;)J"⟩
abbrev cX2_eachAbove : ByteArray := prog_4_method_3_code
def yX2_eachAbove : MethodName := ⟨RX2, "eachAbove", "([II)J"⟩
abbrev cX2_sum : ByteArray := prog_4_method_4_code
def yX2_sum : MethodName := ⟨RX2, "sum", "([II)J"⟩
abbrev cX2_equalPairs : ByteArray := prog_4_method_5_code
def yX2_equalPairs : MethodName := ⟨RX2, "equalPairs", "([II)J"⟩
abbrev cX2_crowds : ByteArray := prog_4_method_6_code
def yX2_crowds : MethodName := ⟨RX2, "crowds", "([II)J"⟩
abbrev cX2_countOf : ByteArray := prog_4_method_7_code
def yX2_countOf : MethodName := ⟨RX2, "countOf", "(I[III)I"⟩
abbrev cX2_lessThanBefore : ByteArray := prog_4_method_8_code
def yX2_lessThanBefore : MethodName := ⟨RX2, "lessThanBefore", "([ILScoreDifferences$Table;)J"⟩
abbrev cX2_countTouched : ByteArray := prog_4_method_9_code
def yX2_countTouched : MethodName := ⟨RX2, "countTouched", "(LScoreDifferences$Table;LScoreDifferences$Table;)I"⟩
def RX3 : String := "ScoreDifferences$Rulebook"
def TX3 : u_T := fun k => match k with
  | 0 => ("ScoreDifferences$Rulebook", "rules", "[LScoreDifferences$Rule;", true)
  | _ => ("ScoreDifferences$Rulebook", "size", "I", false)
def tyX3 : Nat → FieldType := fun k => match k with
  | 0 => .array (.object "ScoreDifferences$Rule")
  | _ => .int
abbrev wsX30 : List Cond := u_ws RX3 TX3 2
theorem nmX3 : ∀ a, a < 2 → ∀ b, b < 2 → a ≠ b → (TX3 a).2.1 ≠ (TX3 b).2.1 := by decide +kernel
theorem tyX3_ok : ∀ k, k < 2 → parseFieldDescriptor (TX3 k).2.2.1 = some (tyX3 k) := by decide +kernel
abbrev cX3_init : ByteArray := prog_5_method_1_code
def yX3_init : MethodName := ⟨RX3, "<init>", "()V"⟩
abbrev cX3_has : ByteArray := prog_5_method_2_code
def yX3_has : MethodName := ⟨RX3, "has", "(I)Z"⟩
abbrev cX3_add : ByteArray := prog_5_method_3_code
def yX3_add : MethodName := ⟨RX3, "add", "(LScoreDifferences$Rule;)I"⟩
def RX4 : String := "ScoreDifferences$Snapshot"
def TX4 : u_T := fun k => match k with
  | 0 => ("ScoreDifferences$Snapshot", "members", "LScoreDifferences$Table;", true)
  | _ => ("ScoreDifferences$Snapshot", "scores", "[J", true)
def tyX4 : Nat → FieldType := fun k => match k with
  | 0 => .object "ScoreDifferences$Table"
  | _ => .array .long
abbrev wsX40 : List Cond := u_ws RX4 TX4 2
theorem nmX4 : ∀ a, a < 2 → ∀ b, b < 2 → a ≠ b → (TX4 a).2.1 ≠ (TX4 b).2.1 := by decide +kernel
theorem tyX4_ok : ∀ k, k < 2 → parseFieldDescriptor (TX4 k).2.2.1 = some (tyX4 k) := by decide +kernel
abbrev cX4_init : ByteArray := prog_6_method_1_code
def yX4_init : MethodName := ⟨RX4, "<init>", "(LScoreDifferences$Plan;)V"⟩
def RX5 : String := "ScoreDifferences$Table"
def TX5 : u_T := fun k => match k with
  | 0 => ("ScoreDifferences$Table", "rows", "[[I", true)
  | _ => ("ScoreDifferences$Table", "objects", "I", false)
def tyX5 : Nat → FieldType := fun k => match k with
  | 0 => .array (.array .int)
  | _ => .int
abbrev wsX50 : List Cond := u_ws RX5 TX5 2
theorem nmX5 : ∀ a, a < 2 → ∀ b, b < 2 → a ≠ b → (TX5 a).2.1 ≠ (TX5 b).2.1 := by decide +kernel
theorem tyX5_ok : ∀ k, k < 2 → parseFieldDescriptor (TX5 k).2.2.1 = some (tyX5 k) := by decide +kernel
abbrev cX5_init : ByteArray := prog_7_method_1_code
def yX5_init : MethodName := ⟨RX5, "<init>", "()V"⟩
abbrev cX5_has : ByteArray := prog_7_method_2_code
def yX5_has : MethodName := ⟨RX5, "has", "(I)Z"⟩
abbrev cX5_read : ByteArray := prog_7_method_3_code
def yX5_read : MethodName := ⟨RX5, "read", "(II)I"⟩
abbrev cX5_addObject : ByteArray := prog_7_method_4_code
def yX5_addObject : MethodName := ⟨RX5, "addObject", "()V"⟩
abbrev cX5_becomeLike : ByteArray := prog_7_method_5_code
def yX5_becomeLike : MethodName := ⟨RX5, "becomeLike", "(LScoreDifferences$Table;)V"⟩
abbrev cX5_takes : ByteArray := prog_7_method_6_code
def yX5_takes : MethodName := ⟨RX5, "takes", "(III)Z"⟩
abbrev cX5_leads : ByteArray := prog_7_method_7_code
def yX5_leads : MethodName := ⟨RX5, "leads", "(II)Z"⟩
abbrev cX5_put : ByteArray := prog_7_method_8_code
def yX5_put : MethodName := ⟨RX5, "put", "(III)V"⟩
abbrev cX5_countOther : ByteArray := prog_7_method_9_code
def yX5_countOther : MethodName := ⟨RX5, "countOther", "(LScoreDifferences$Table;)I"⟩
def RX6 : String := "ScoreDifferences"
def TX6 : u_T := fun k => match k with
  | 0 => ("ScoreDifferences", "book", "LScoreDifferences$Rulebook;", true)
  | 1 => ("ScoreDifferences", "plans", "[LScoreDifferences$Plan;", true)
  | 2 => ("ScoreDifferences", "snapshots", "[LScoreDifferences$Snapshot;", true)
  | 3 => ("ScoreDifferences", "planCount", "I", false)
  | 4 => ("ScoreDifferences", "snapshotCount", "I", false)
  | _ => ("ScoreDifferences", "checkEvery", "I", false)
def tyX6 : Nat → FieldType := fun k => match k with
  | 0 => .object "ScoreDifferences$Rulebook"
  | 1 => .array (.object "ScoreDifferences$Plan")
  | 2 => .array (.object "ScoreDifferences$Snapshot")
  | 3 => .int
  | 4 => .int
  | _ => .int
abbrev wsX60 : List Cond := u_ws RX6 TX6 6
theorem nmX6 : ∀ a, a < 6 → ∀ b, b < 6 → a ≠ b → (TX6 a).2.1 ≠ (TX6 b).2.1 := by decide +kernel
theorem tyX6_ok : ∀ k, k < 6 → parseFieldDescriptor (TX6 k).2.2.1 = some (tyX6 k) := by decide +kernel
abbrev cX6_init : ByteArray := prog_1_method_1_code
def yX6_init : MethodName := ⟨RX6, "<init>", "()V"⟩
abbrev cX6_object : ByteArray := prog_1_method_2_code
def yX6_object : MethodName := ⟨RX6, "object", "()I"⟩
abbrev cX6_rule : ByteArray := prog_1_method_3_code
def yX6_rule : MethodName := ⟨RX6, "rule", "(IIIII)I"⟩
abbrev cX6_forget : ByteArray := prog_1_method_4_code
def yX6_forget : MethodName := ⟨RX6, "forget", "(IIZ)I"⟩
abbrev cX6_fork : ByteArray := prog_1_method_5_code
def yX6_fork : MethodName := ⟨RX6, "fork", "(I)I"⟩
abbrev cX6_change : ByteArray := prog_1_method_6_code
def yX6_change : MethodName := ⟨RX6, "change", "(IIII)I"⟩
abbrev cX6_attempt : ByteArray := prog_1_method_7_code
def yX6_attempt : MethodName := ⟨RX6, "attempt", "(IIIII)J"⟩
abbrev cX6_undo : ByteArray := prog_1_method_8_code
def yX6_undo : MethodName := ⟨RX6, "undo", "(I)I"⟩
abbrev cX6_begin : ByteArray := prog_1_method_9_code
def yX6_begin : MethodName := ⟨RX6, "begin", "(I)I"⟩
abbrev cX6_end : ByteArray := prog_1_method_10_code
def yX6_end : MethodName := ⟨RX6, "end", "(IZ)I"⟩
abbrev cX6_member : ByteArray := prog_1_method_11_code
def yX6_member : MethodName := ⟨RX6, "member", "(III)I"⟩
abbrev cX6_score : ByteArray := prog_1_method_12_code
def yX6_score : MethodName := ⟨RX6, "score", "(II)J"⟩
abbrev cX6_worth : ByteArray := prog_1_method_13_code
def yX6_worth : MethodName := ⟨RX6, "worth", "(III)J"⟩
abbrev cX6_check : ByteArray := prog_1_method_14_code
def yX6_check : MethodName := ⟨RX6, "check", "(I)I"⟩
abbrev cX6_every : ByteArray := prog_1_method_15_code
def yX6_every : MethodName := ⟨RX6, "every", "(I)I"⟩
abbrev cX6_mend : ByteArray := prog_1_method_16_code
def yX6_mend : MethodName := ⟨RX6, "mend", "(II)I"⟩
abbrev cX6_keep : ByteArray := prog_1_method_17_code
def yX6_keep : MethodName := ⟨RX6, "keep", "(I)I"⟩
abbrev cX6_kept : ByteArray := prog_1_method_18_code
def yX6_kept : MethodName := ⟨RX6, "kept", "(II)J"⟩
abbrev cX6_then : ByteArray := prog_1_method_19_code
def yX6_then : MethodName := ⟨RX6, "then", "(III)I"⟩
abbrev cX6_told : ByteArray := prog_1_method_20_code
def yX6_told : MethodName := ⟨RX6, "told", "(II)I"⟩
abbrev cX6_all : ByteArray := prog_1_method_21_code
def yX6_all : MethodName := ⟨RX6, "all", "(I)I"⟩
abbrev cX6_isSettled : ByteArray := prog_1_method_22_code
def yX6_isSettled : MethodName := ⟨RX6, "isSettled", "()Z"⟩
abbrev cX6_planAt : ByteArray := prog_1_method_23_code
def yX6_planAt : MethodName := ⟨RX6, "planAt", "(I)LScoreDifferences$Plan;"⟩
abbrev cX6_snapshotAt : ByteArray := prog_1_method_24_code
def yX6_snapshotAt : MethodName := ⟨RX6, "snapshotAt", "(I)LScoreDifferences$Snapshot;"⟩
abbrev cX6_isRule : ByteArray := prog_1_method_25_code
def yX6_isRule : MethodName := ⟨RX6, "isRule", "(IIIII)Z"⟩
abbrev cX6_isLevel : ByteArray := prog_1_method_26_code
def yX6_isLevel : MethodName := ⟨RX6, "isLevel", "(I)Z"⟩
abbrev cX6_within : ByteArray := prog_1_method_27_code
def yX6_within : MethodName := ⟨RX6, "within", "(III)Z"⟩
abbrev cX6_oneIf : ByteArray := prog_1_method_28_code
def yX6_oneIf : MethodName := ⟨RX6, "oneIf", "(Z)I"⟩
def RX7 : String := "ScoreDifferencesModel"
def TX7 : u_T := fun k => match k with
  | 0 => ("ScoreDifferencesModel", "objects", "I", false)
  | 1 => ("ScoreDifferencesModel", "rules", "I", false)
  | 2 => ("ScoreDifferencesModel", "kind", "[I", true)
  | 3 => ("ScoreDifferencesModel", "looks", "[I", true)
  | 4 => ("ScoreDifferencesModel", "bound", "[I", true)
  | 5 => ("ScoreDifferencesModel", "weight", "[I", true)
  | 6 => ("ScoreDifferencesModel", "level", "[I", true)
  | 7 => ("ScoreDifferencesModel", "plans", "I", false)
  | 8 => ("ScoreDifferencesModel", "member", "[I", true)
  | 9 => ("ScoreDifferencesModel", "kept", "[J", true)
  | 10 => ("ScoreDifferencesModel", "forgets", "[Z", true)
  | 11 => ("ScoreDifferencesModel", "changes", "[I", true)
  | 12 => ("ScoreDifferencesModel", "cost", "[I", true)
  | 13 => ("ScoreDifferencesModel", "found", "[I", true)
  | 14 => ("ScoreDifferencesModel", "isBatch", "[Z", true)
  | 15 => ("ScoreDifferencesModel", "batch", "[I", true)
  | 16 => ("ScoreDifferencesModel", "known", "[I", true)
  | 17 => ("ScoreDifferencesModel", "oldObject", "[I", true)
  | 18 => ("ScoreDifferencesModel", "oldMember", "[I", true)
  | 19 => ("ScoreDifferencesModel", "oldNumber", "[I", true)
  | 20 => ("ScoreDifferencesModel", "oldKept", "[J", true)
  | 21 => ("ScoreDifferencesModel", "every", "I", false)
  | 22 => ("ScoreDifferencesModel", "keeps", "I", false)
  | 23 => ("ScoreDifferencesModel", "keptScore", "[J", true)
  | 24 => ("ScoreDifferencesModel", "keptMember", "[I", true)
  | 25 => ("ScoreDifferencesModel", "keptObjects", "[I", true)
  | 26 => ("ScoreDifferencesModel", "was", "[I", true)
  | _ => ("ScoreDifferencesModel", "worthWas", "[J", true)
def tyX7 : Nat → FieldType := fun k => match k with
  | 0 => .int
  | 1 => .int
  | 2 => .array .int
  | 3 => .array .int
  | 4 => .array .int
  | 5 => .array .int
  | 6 => .array .int
  | 7 => .int
  | 8 => .array .int
  | 9 => .array .long
  | 10 => .array .boolean
  | 11 => .array .int
  | 12 => .array .int
  | 13 => .array .int
  | 14 => .array .boolean
  | 15 => .array .int
  | 16 => .array .int
  | 17 => .array .int
  | 18 => .array .int
  | 19 => .array .int
  | 20 => .array .long
  | 21 => .int
  | 22 => .int
  | 23 => .array .long
  | 24 => .array .int
  | 25 => .array .int
  | 26 => .array .int
  | _ => .array .long
abbrev wsX70 : List Cond := u_ws RX7 TX7 28
theorem nmX7 : ∀ a, a < 28 → ∀ b, b < 28 → a ≠ b → (TX7 a).2.1 ≠ (TX7 b).2.1 := by decide +kernel
theorem tyX7_ok : ∀ k, k < 28 → parseFieldDescriptor (TX7 k).2.2.1 = some (tyX7 k) := by decide +kernel
abbrev cX7_init : ByteArray := prog_9_method_1_code
def yX7_init : MethodName := ⟨RX7, "<init>", "()V"⟩
abbrev cX7_in : ByteArray := prog_9_method_2_code
def yX7_in : MethodName := ⟨RX7, "in", "(III)Z"⟩
abbrev cX7_isPlan : ByteArray := prog_9_method_3_code
def yX7_isPlan : MethodName := ⟨RX7, "isPlan", "(I)Z"⟩
abbrev cX7_at : ByteArray := prog_9_method_4_code
def yX7_at : MethodName := ⟨RX7, "at", "(III)I"⟩
abbrev cX7_findEnds : ByteArray := prog_9_method_5_code
def yX7_findEnds : MethodName := ⟨RX7, "findEnds", "(I)V"⟩
abbrev cX7_worthOf : ByteArray := prog_9_method_6_code
def yX7_worthOf : MethodName := ⟨RX7, "worthOf", "(II)J"⟩
abbrev cX7_scoreOf : ByteArray := prog_9_method_7_code
def yX7_scoreOf : MethodName := ⟨RX7, "scoreOf", "(II)J"⟩
abbrev cX7_remember : ByteArray := prog_9_method_8_code
def yX7_remember : MethodName := ⟨RX7, "remember", "(I)V"⟩
abbrev cX7_others : ByteArray := prog_9_method_9_code
def yX7_others : MethodName := ⟨RX7, "others", "(I)I"⟩
abbrev cX7_pairs : ByteArray := prog_9_method_10_code
def yX7_pairs : MethodName := ⟨RX7, "pairs", "(I)I"⟩
abbrev cX7_isBegun : ByteArray := prog_9_method_11_code
def yX7_isBegun : MethodName := ⟨RX7, "isBegun", "()Z"⟩
abbrev cX7_object : ByteArray := prog_9_method_12_code
def yX7_object : MethodName := ⟨RX7, "object", "()I"⟩
abbrev cX7_rule : ByteArray := prog_9_method_13_code
def yX7_rule : MethodName := ⟨RX7, "rule", "(IIIII)I"⟩
abbrev cX7_isRule : ByteArray := prog_9_method_14_code
def yX7_isRule : MethodName := ⟨RX7, "isRule", "(I)Z"⟩
abbrev cX7_forget : ByteArray := prog_9_method_15_code
def yX7_forget : MethodName := ⟨RX7, "forget", "(IIZ)I"⟩
abbrev cX7_fork : ByteArray := prog_9_method_16_code
def yX7_fork : MethodName := ⟨RX7, "fork", "(I)I"⟩
abbrev cX7_isFit : ByteArray := prog_9_method_17_code
def yX7_isFit : MethodName := ⟨RX7, "isFit", "(IIII)Z"⟩
abbrev cX7_put : ByteArray := prog_9_method_18_code
def yX7_put : MethodName := ⟨RX7, "put", "(IIII)V"⟩
abbrev cX7_firstFalse : ByteArray := prog_9_method_19_code
def yX7_firstFalse : MethodName := ⟨RX7, "firstFalse", "(I)I"⟩
abbrev cX7_know : ByteArray := prog_9_method_20_code
def yX7_know : MethodName := ⟨RX7, "know", "(IIII)V"⟩
abbrev cX7_change : ByteArray := prog_9_method_21_code
def yX7_change : MethodName := ⟨RX7, "change", "(IIII)I"⟩
abbrev cX7_attempt : ByteArray := prog_9_method_22_code
def yX7_attempt : MethodName := ⟨RX7, "attempt", "(IIIII)J"⟩
abbrev cX7_takeBack : ByteArray := prog_9_method_23_code
def yX7_takeBack : MethodName := ⟨RX7, "takeBack", "(I)V"⟩
abbrev cX7_undo : ByteArray := prog_9_method_24_code
def yX7_undo : MethodName := ⟨RX7, "undo", "(I)I"⟩
abbrev cX7_begin : ByteArray := prog_9_method_25_code
def yX7_begin : MethodName := ⟨RX7, "begin", "(I)I"⟩
abbrev cX7_end : ByteArray := prog_9_method_26_code
def yX7_end : MethodName := ⟨RX7, "end", "(IZ)I"⟩
abbrev cX7_member : ByteArray := prog_9_method_27_code
def yX7_member : MethodName := ⟨RX7, "member", "(III)I"⟩
abbrev cX7_score : ByteArray := prog_9_method_28_code
def yX7_score : MethodName := ⟨RX7, "score", "(II)J"⟩
abbrev cX7_worth : ByteArray := prog_9_method_29_code
def yX7_worth : MethodName := ⟨RX7, "worth", "(III)J"⟩
abbrev cX7_check : ByteArray := prog_9_method_30_code
def yX7_check : MethodName := ⟨RX7, "check", "(I)I"⟩
abbrev cX7_every : ByteArray := prog_9_method_31_code
def yX7_every : MethodName := ⟨RX7, "every", "(I)I"⟩
abbrev cX7_mend : ByteArray := prog_9_method_32_code
def yX7_mend : MethodName := ⟨RX7, "mend", "(II)I"⟩
abbrev cX7_keep : ByteArray := prog_9_method_33_code
def yX7_keep : MethodName := ⟨RX7, "keep", "(I)I"⟩
abbrev cX7_kept : ByteArray := prog_9_method_34_code
def yX7_kept : MethodName := ⟨RX7, "kept", "(II)J"⟩
abbrev cX7_then : ByteArray := prog_9_method_35_code
def yX7_then : MethodName := ⟨RX7, "then", "(III)I"⟩
abbrev cX7_told : ByteArray := prog_9_method_36_code
def yX7_told : MethodName := ⟨RX7, "told", "(II)I"⟩
abbrev cX7_all : ByteArray := prog_9_method_37_code
def yX7_all : MethodName := ⟨RX7, "all", "(I)I"⟩
def RJ9 : String := "java/lang/Math"
def TJ9 : u_T := fun k => match k with
  | _ => ("", "", "", false)
def tyJ9 : Nat → FieldType := fun k => match k with
  | _ => .int
abbrev wsJ90 : List Cond := u_ws RJ9 TJ9 0
theorem nmJ9 : ∀ a, a < 0 → ∀ b, b < 0 → a ≠ b → (TJ9 a).2.1 ≠ (TJ9 b).2.1 := by decide +kernel
theorem tyJ9_ok : ∀ k, k < 0 → parseFieldDescriptor (TJ9 k).2.2.1 = some (tyJ9 k) := by decide +kernel
abbrev cJ9_abs_067f4 : ByteArray := prog_10_method_61_code
def yJ9_abs_067f4 : MethodName := ⟨RJ9, "abs", "(J)J"⟩
abbrev cJ9_max_7cf53 : ByteArray := prog_10_method_65_code
def yJ9_max_7cf53 : MethodName := ⟨RJ9, "max", "(II)I"⟩
abbrev cJ9_max_f86c9 : ByteArray := prog_10_method_66_code
def yJ9_max_f86c9 : MethodName := ⟨RJ9, "max", "(JJ)J"⟩
abbrev cJ9_min_7cf53 : ByteArray := prog_10_method_69_code
def yJ9_min_7cf53 : MethodName := ⟨RJ9, "min", "(II)I"⟩
def RJ10 : String := "java/lang/System"
def TJ10 : u_T := fun k => match k with
  | _ => ("", "", "", false)
def tyJ10 : Nat → FieldType := fun k => match k with
  | _ => .int
abbrev wsJ100 : List Cond := u_ws RJ10 TJ10 0
theorem nmJ10 : ∀ a, a < 0 → ∀ b, b < 0 → a ≠ b → (TJ10 a).2.1 ≠ (TJ10 b).2.1 := by decide +kernel
theorem tyJ10_ok : ∀ k, k < 0 → parseFieldDescriptor (TJ10 k).2.2.1 = some (tyJ10 k) := by decide +kernel
def RL : String := "ScoreDifferencesLaw"
abbrev cL_law : ByteArray := code
def yL_law : MethodName := ⟨RL, "law", "([I)Z"⟩
abbrev vwCl : List vw_C := [(RX0, TX0, 6), (RX1, TX1, 11), (RX2, TX2, 5), (RX3, TX3, 2), (RX4, TX4, 2), (RX5, TX5, 2), (RX6, TX6, 6), (RX7, TX7, 28)]
end
section
theorem dX0_init_0 : decode cX0_init 0 = .ok (.aload_n 0, 1) := by decide +kernel
theorem dX0_init_1 : decode cX0_init 1 = .ok (.invokespecial 3, 3) := by decide +kernel
theorem dX0_init_4 : decode cX0_init 4 = .ok (.aload_n 0, 1) := by decide +kernel
theorem dX0_init_5 : decode cX0_init 5 = .ok (.bipush 60, 2) := by decide +kernel
theorem dX0_init_7 : decode cX0_init 7 = .ok (.newarray .int, 2) := by decide +kernel
theorem dX0_init_9 : decode cX0_init 9 = .ok (.putfield 9, 3) := by decide +kernel
theorem dX0_init_12 : decode cX0_init 12 = .ok (.aload_n 0, 1) := by decide +kernel
theorem dX0_init_13 : decode cX0_init 13 = .ok (.bipush 60, 2) := by decide +kernel
theorem dX0_init_15 : decode cX0_init 15 = .ok (.newarray .int, 2) := by decide +kernel
theorem dX0_init_17 : decode cX0_init 17 = .ok (.putfield 15, 3) := by decide +kernel
theorem dX0_init_20 : decode cX0_init 20 = .ok (.aload_n 0, 1) := by decide +kernel
theorem dX0_init_21 : decode cX0_init 21 = .ok (.bipush 60, 2) := by decide +kernel
theorem dX0_init_23 : decode cX0_init 23 = .ok (.newarray .int, 2) := by decide +kernel
theorem dX0_init_25 : decode cX0_init 25 = .ok (.putfield 18, 3) := by decide +kernel
theorem dX0_init_28 : decode cX0_init 28 = .ok (.aload_n 0, 1) := by decide +kernel
theorem dX0_init_29 : decode cX0_init 29 = .ok (.bipush 60, 2) := by decide +kernel
theorem dX0_init_31 : decode cX0_init 31 = .ok (.bipush 12, 2) := by decide +kernel
theorem dX0_init_33 : decode cX0_init 33 = .ok (.multianewarray 21 2, 4) := by decide +kernel
theorem dX0_init_37 : decode cX0_init 37 = .ok (.putfield 23, 3) := by decide +kernel
theorem dX0_init_40 : decode cX0_init 40 = .ok (.return_, 1) := by decide +kernel
theorem dX0_push_0 : decode cX0_push 0 = .ok (.aload_n 0, 1) := by decide +kernel
theorem dX0_push_1 : decode cX0_push 1 = .ok (.getfield 9, 3) := by decide +kernel
theorem dX0_push_4 : decode cX0_push 4 = .ok (.aload_n 0, 1) := by decide +kernel
theorem dX0_push_5 : decode cX0_push 5 = .ok (.getfield 26, 3) := by decide +kernel
theorem dX0_push_8 : decode cX0_push 8 = .ok (.iload_n 1, 1) := by decide +kernel
theorem dX0_push_9 : decode cX0_push 9 = .ok (.iastore, 1) := by decide +kernel
theorem dX0_push_10 : decode cX0_push 10 = .ok (.aload_n 0, 1) := by decide +kernel
theorem dX0_push_11 : decode cX0_push 11 = .ok (.getfield 15, 3) := by decide +kernel
theorem dX0_push_14 : decode cX0_push 14 = .ok (.aload_n 0, 1) := by decide +kernel
theorem dX0_push_15 : decode cX0_push 15 = .ok (.getfield 26, 3) := by decide +kernel
theorem dX0_push_18 : decode cX0_push 18 = .ok (.iload_n 2, 1) := by decide +kernel
theorem dX0_push_19 : decode cX0_push 19 = .ok (.iastore, 1) := by decide +kernel
theorem dX0_push_20 : decode cX0_push 20 = .ok (.aload_n 0, 1) := by decide +kernel
theorem dX0_push_21 : decode cX0_push 21 = .ok (.getfield 18, 3) := by decide +kernel
theorem dX0_push_24 : decode cX0_push 24 = .ok (.aload_n 0, 1) := by decide +kernel
theorem dX0_push_25 : decode cX0_push 25 = .ok (.getfield 26, 3) := by decide +kernel
theorem dX0_push_28 : decode cX0_push 28 = .ok (.iload_n 3, 1) := by decide +kernel
theorem dX0_push_29 : decode cX0_push 29 = .ok (.iastore, 1) := by decide +kernel
theorem dX0_push_30 : decode cX0_push 30 = .ok (.aload 4, 2) := by decide +kernel
theorem dX0_push_32 : decode cX0_push 32 = .ok (.iconst 0, 1) := by decide +kernel
theorem dX0_push_33 : decode cX0_push 33 = .ok (.aload_n 0, 1) := by decide +kernel
theorem dX0_push_34 : decode cX0_push 34 = .ok (.getfield 23, 3) := by decide +kernel
theorem dX0_push_37 : decode cX0_push 37 = .ok (.aload_n 0, 1) := by decide +kernel
theorem dX0_push_38 : decode cX0_push 38 = .ok (.getfield 26, 3) := by decide +kernel
theorem dX0_push_41 : decode cX0_push 41 = .ok (.aaload, 1) := by decide +kernel
theorem dX0_push_42 : decode cX0_push 42 = .ok (.iconst 0, 1) := by decide +kernel
theorem dX0_push_43 : decode cX0_push 43 = .ok (.bipush 12, 2) := by decide +kernel
theorem dX0_push_45 : decode cX0_push 45 = .ok (.invokestatic 30, 3) := by decide +kernel
theorem dX0_push_48 : decode cX0_push 48 = .ok (.aload_n 0, 1) := by decide +kernel
theorem dX0_push_49 : decode cX0_push 49 = .ok (.aload_n 0, 1) := by decide +kernel
theorem dX0_push_50 : decode cX0_push 50 = .ok (.getfield 26, 3) := by decide +kernel
theorem dX0_push_53 : decode cX0_push 53 = .ok (.iconst 1, 1) := by decide +kernel
theorem dX0_push_54 : decode cX0_push 54 = .ok (.iadd, 1) := by decide +kernel
theorem dX0_push_55 : decode cX0_push 55 = .ok (.bipush 60, 2) := by decide +kernel
theorem dX0_push_57 : decode cX0_push 57 = .ok (.if_icmp .ge 12, 3) := by decide +kernel
theorem dX0_push_60 : decode cX0_push 60 = .ok (.aload_n 0, 1) := by decide +kernel
theorem dX0_push_61 : decode cX0_push 61 = .ok (.getfield 26, 3) := by decide +kernel
theorem dX0_push_64 : decode cX0_push 64 = .ok (.iconst 1, 1) := by decide +kernel
theorem dX0_push_65 : decode cX0_push 65 = .ok (.iadd, 1) := by decide +kernel
theorem dX0_push_66 : decode cX0_push 66 = .ok (.goto 4, 3) := by decide +kernel
theorem dX0_push_69 : decode cX0_push 69 = .ok (.iconst 0, 1) := by decide +kernel
theorem dX0_push_70 : decode cX0_push 70 = .ok (.putfield 26, 3) := by decide +kernel
theorem dX0_push_73 : decode cX0_push 73 = .ok (.aload_n 0, 1) := by decide +kernel
theorem dX0_push_74 : decode cX0_push 74 = .ok (.aload_n 0, 1) := by decide +kernel
theorem dX0_push_75 : decode cX0_push 75 = .ok (.getfield 36, 3) := by decide +kernel
theorem dX0_push_78 : decode cX0_push 78 = .ok (.iconst 1, 1) := by decide +kernel
theorem dX0_push_79 : decode cX0_push 79 = .ok (.iadd, 1) := by decide +kernel
theorem dX0_push_80 : decode cX0_push 80 = .ok (.bipush 60, 2) := by decide +kernel
theorem dX0_push_82 : decode cX0_push 82 = .ok (.invokestatic 39, 3) := by decide +kernel
theorem dX0_push_85 : decode cX0_push 85 = .ok (.putfield 36, 3) := by decide +kernel
theorem dX0_push_88 : decode cX0_push 88 = .ok (.return_, 1) := by decide +kernel
theorem dX0_pop_0 : decode cX0_pop 0 = .ok (.aload_n 0, 1) := by decide +kernel
theorem dX0_pop_1 : decode cX0_pop 1 = .ok (.aload_n 0, 1) := by decide +kernel
theorem dX0_pop_2 : decode cX0_pop 2 = .ok (.getfield 26, 3) := by decide +kernel
theorem dX0_pop_5 : decode cX0_pop 5 = .ok (.ifCond .le 12, 3) := by decide +kernel
theorem dX0_pop_8 : decode cX0_pop 8 = .ok (.aload_n 0, 1) := by decide +kernel
theorem dX0_pop_9 : decode cX0_pop 9 = .ok (.getfield 26, 3) := by decide +kernel
theorem dX0_pop_12 : decode cX0_pop 12 = .ok (.iconst 1, 1) := by decide +kernel
theorem dX0_pop_13 : decode cX0_pop 13 = .ok (.isub, 1) := by decide +kernel
theorem dX0_pop_14 : decode cX0_pop 14 = .ok (.goto 5, 3) := by decide +kernel
theorem dX0_pop_17 : decode cX0_pop 17 = .ok (.bipush 59, 2) := by decide +kernel
theorem dX0_pop_19 : decode cX0_pop 19 = .ok (.putfield 26, 3) := by decide +kernel
theorem dX0_pop_22 : decode cX0_pop 22 = .ok (.aload_n 0, 1) := by decide +kernel
theorem dX0_pop_23 : decode cX0_pop 23 = .ok (.dup, 1) := by decide +kernel
theorem dX0_pop_24 : decode cX0_pop 24 = .ok (.getfield 36, 3) := by decide +kernel
theorem dX0_pop_27 : decode cX0_pop 27 = .ok (.iconst 1, 1) := by decide +kernel
theorem dX0_pop_28 : decode cX0_pop 28 = .ok (.isub, 1) := by decide +kernel
theorem dX0_pop_29 : decode cX0_pop 29 = .ok (.putfield 36, 3) := by decide +kernel
theorem dX0_pop_32 : decode cX0_pop 32 = .ok (.aload_n 0, 1) := by decide +kernel
theorem dX0_pop_33 : decode cX0_pop 33 = .ok (.getfield 26, 3) := by decide +kernel
theorem dX0_pop_36 : decode cX0_pop 36 = .ok (.ireturn, 1) := by decide +kernel
theorem dX1_init_0 : decode cX1_init 0 = .ok (.aload_n 0, 1) := by decide +kernel
theorem dX1_init_1 : decode cX1_init 1 = .ok (.invokespecial 3, 3) := by decide +kernel
theorem dX1_init_4 : decode cX1_init 4 = .ok (.aload_n 0, 1) := by decide +kernel
theorem dX1_init_5 : decode cX1_init 5 = .ok (.new 9, 3) := by decide +kernel
theorem dX1_init_8 : decode cX1_init 8 = .ok (.dup, 1) := by decide +kernel
theorem dX1_init_9 : decode cX1_init 9 = .ok (.invokespecial 11, 3) := by decide +kernel
theorem dX1_init_12 : decode cX1_init 12 = .ok (.putfield 12, 3) := by decide +kernel
theorem dX1_init_15 : decode cX1_init 15 = .ok (.aload_n 0, 1) := by decide +kernel
theorem dX1_init_16 : decode cX1_init 16 = .ok (.new 9, 3) := by decide +kernel
theorem dX1_init_19 : decode cX1_init 19 = .ok (.dup, 1) := by decide +kernel
theorem dX1_init_20 : decode cX1_init 20 = .ok (.invokespecial 11, 3) := by decide +kernel
theorem dX1_init_23 : decode cX1_init 23 = .ok (.putfield 18, 3) := by decide +kernel
theorem dX1_init_26 : decode cX1_init 26 = .ok (.aload_n 0, 1) := by decide +kernel
theorem dX1_init_27 : decode cX1_init 27 = .ok (.bipush 12, 2) := by decide +kernel
theorem dX1_init_29 : decode cX1_init 29 = .ok (.newarray .long, 2) := by decide +kernel
theorem dX1_init_31 : decode cX1_init 31 = .ok (.putfield 21, 3) := by decide +kernel
theorem dX1_init_34 : decode cX1_init 34 = .ok (.aload_n 0, 1) := by decide +kernel
theorem dX1_init_35 : decode cX1_init 35 = .ok (.bipush 12, 2) := by decide +kernel
theorem dX1_init_37 : decode cX1_init 37 = .ok (.newarray .boolean, 2) := by decide +kernel
theorem dX1_init_39 : decode cX1_init 39 = .ok (.putfield 25, 3) := by decide +kernel
theorem dX1_init_42 : decode cX1_init 42 = .ok (.aload_n 0, 1) := by decide +kernel
theorem dX1_init_43 : decode cX1_init 43 = .ok (.new 29, 3) := by decide +kernel
theorem dX1_init_46 : decode cX1_init 46 = .ok (.dup, 1) := by decide +kernel
theorem dX1_init_47 : decode cX1_init 47 = .ok (.invokespecial 31, 3) := by decide +kernel
theorem dX1_init_50 : decode cX1_init 50 = .ok (.putfield 32, 3) := by decide +kernel
theorem dX1_init_53 : decode cX1_init 53 = .ok (.aload_n 0, 1) := by decide +kernel
theorem dX1_init_54 : decode cX1_init 54 = .ok (.iconst (-1), 1) := by decide +kernel
theorem dX1_init_55 : decode cX1_init 55 = .ok (.putfield 36, 3) := by decide +kernel
theorem dX1_init_58 : decode cX1_init 58 = .ok (.aload_n 0, 1) := by decide +kernel
theorem dX1_init_59 : decode cX1_init 59 = .ok (.aload_n 1, 1) := by decide +kernel
theorem dX1_init_60 : decode cX1_init 60 = .ok (.putfield 40, 3) := by decide +kernel
theorem dX1_init_63 : decode cX1_init 63 = .ok (.return_, 1) := by decide +kernel
theorem dX1_becomeLike_0 : decode cX1_becomeLike 0 = .ok (.aload_n 0, 1) := by decide +kernel
theorem dX1_becomeLike_1 : decode cX1_becomeLike 1 = .ok (.getfield 12, 3) := by decide +kernel
theorem dX1_becomeLike_4 : decode cX1_becomeLike 4 = .ok (.aload_n 1, 1) := by decide +kernel
theorem dX1_becomeLike_5 : decode cX1_becomeLike 5 = .ok (.getfield 12, 3) := by decide +kernel
theorem dX1_becomeLike_8 : decode cX1_becomeLike 8 = .ok (.invokevirtual 44, 3) := by decide +kernel
theorem dX1_becomeLike_11 : decode cX1_becomeLike 11 = .ok (.iconst 0, 1) := by decide +kernel
theorem dX1_becomeLike_12 : decode cX1_becomeLike 12 = .ok (.istore_n 2, 1) := by decide +kernel
theorem dX1_becomeLike_13 : decode cX1_becomeLike 13 = .ok (.iload_n 2, 1) := by decide +kernel
theorem dX1_becomeLike_14 : decode cX1_becomeLike 14 = .ok (.aload_n 0, 1) := by decide +kernel
theorem dX1_becomeLike_15 : decode cX1_becomeLike 15 = .ok (.getfield 40, 3) := by decide +kernel
theorem dX1_becomeLike_18 : decode cX1_becomeLike 18 = .ok (.getfield 48, 3) := by decide +kernel
theorem dX1_becomeLike_21 : decode cX1_becomeLike 21 = .ok (.if_icmp .ge 33, 3) := by decide +kernel
theorem dX1_becomeLike_24 : decode cX1_becomeLike 24 = .ok (.aload_n 0, 1) := by decide +kernel
theorem dX1_becomeLike_25 : decode cX1_becomeLike 25 = .ok (.getfield 21, 3) := by decide +kernel
theorem dX1_becomeLike_28 : decode cX1_becomeLike 28 = .ok (.iload_n 2, 1) := by decide +kernel
theorem dX1_becomeLike_29 : decode cX1_becomeLike 29 = .ok (.aload_n 1, 1) := by decide +kernel
theorem dX1_becomeLike_30 : decode cX1_becomeLike 30 = .ok (.getfield 21, 3) := by decide +kernel
theorem dX1_becomeLike_33 : decode cX1_becomeLike 33 = .ok (.iload_n 2, 1) := by decide +kernel
theorem dX1_becomeLike_34 : decode cX1_becomeLike 34 = .ok (.laload, 1) := by decide +kernel
theorem dX1_becomeLike_35 : decode cX1_becomeLike 35 = .ok (.lastore, 1) := by decide +kernel
theorem dX1_becomeLike_36 : decode cX1_becomeLike 36 = .ok (.aload_n 0, 1) := by decide +kernel
theorem dX1_becomeLike_37 : decode cX1_becomeLike 37 = .ok (.getfield 25, 3) := by decide +kernel
theorem dX1_becomeLike_40 : decode cX1_becomeLike 40 = .ok (.iload_n 2, 1) := by decide +kernel
theorem dX1_becomeLike_41 : decode cX1_becomeLike 41 = .ok (.aload_n 1, 1) := by decide +kernel
theorem dX1_becomeLike_42 : decode cX1_becomeLike 42 = .ok (.getfield 25, 3) := by decide +kernel
theorem dX1_becomeLike_45 : decode cX1_becomeLike 45 = .ok (.iload_n 2, 1) := by decide +kernel
theorem dX1_becomeLike_46 : decode cX1_becomeLike 46 = .ok (.baload, 1) := by decide +kernel
theorem dX1_becomeLike_47 : decode cX1_becomeLike 47 = .ok (.bastore, 1) := by decide +kernel
theorem dX1_becomeLike_48 : decode cX1_becomeLike 48 = .ok (.iinc 2 1, 3) := by decide +kernel
theorem dX1_becomeLike_51 : decode cX1_becomeLike 51 = .ok (.goto (-38), 3) := by decide +kernel
theorem dX1_becomeLike_54 : decode cX1_becomeLike 54 = .ok (.return_, 1) := by decide +kernel
theorem dX1_addObject_0 : decode cX1_addObject 0 = .ok (.aload_n 0, 1) := by decide +kernel
theorem dX1_addObject_1 : decode cX1_addObject 1 = .ok (.getfield 18, 3) := by decide +kernel
theorem dX1_addObject_4 : decode cX1_addObject 4 = .ok (.aload_n 0, 1) := by decide +kernel
theorem dX1_addObject_5 : decode cX1_addObject 5 = .ok (.getfield 12, 3) := by decide +kernel
theorem dX1_addObject_8 : decode cX1_addObject 8 = .ok (.invokevirtual 44, 3) := by decide +kernel
theorem dX1_addObject_11 : decode cX1_addObject 11 = .ok (.aload_n 0, 1) := by decide +kernel
theorem dX1_addObject_12 : decode cX1_addObject 12 = .ok (.getfield 18, 3) := by decide +kernel
theorem dX1_addObject_15 : decode cX1_addObject 15 = .ok (.invokevirtual 53, 3) := by decide +kernel
theorem dX1_addObject_18 : decode cX1_addObject 18 = .ok (.iconst 0, 1) := by decide +kernel
theorem dX1_addObject_19 : decode cX1_addObject 19 = .ok (.istore_n 1, 1) := by decide +kernel
theorem dX1_addObject_20 : decode cX1_addObject 20 = .ok (.iload_n 1, 1) := by decide +kernel
theorem dX1_addObject_21 : decode cX1_addObject 21 = .ok (.aload_n 0, 1) := by decide +kernel
theorem dX1_addObject_22 : decode cX1_addObject 22 = .ok (.getfield 40, 3) := by decide +kernel
theorem dX1_addObject_25 : decode cX1_addObject 25 = .ok (.getfield 48, 3) := by decide +kernel
theorem dX1_addObject_28 : decode cX1_addObject 28 = .ok (.if_icmp .ge 23, 3) := by decide +kernel
theorem dX1_addObject_31 : decode cX1_addObject 31 = .ok (.aload_n 0, 1) := by decide +kernel
theorem dX1_addObject_32 : decode cX1_addObject 32 = .ok (.getfield 21, 3) := by decide +kernel
theorem dX1_addObject_35 : decode cX1_addObject 35 = .ok (.iload_n 1, 1) := by decide +kernel
theorem dX1_addObject_36 : decode cX1_addObject 36 = .ok (.dup2, 1) := by decide +kernel
theorem dX1_addObject_37 : decode cX1_addObject 37 = .ok (.laload, 1) := by decide +kernel
theorem dX1_addObject_38 : decode cX1_addObject 38 = .ok (.aload_n 0, 1) := by decide +kernel
theorem dX1_addObject_39 : decode cX1_addObject 39 = .ok (.iload_n 1, 1) := by decide +kernel
theorem dX1_addObject_40 : decode cX1_addObject 40 = .ok (.invokevirtual 56, 3) := by decide +kernel
theorem dX1_addObject_43 : decode cX1_addObject 43 = .ok (.ladd, 1) := by decide +kernel
theorem dX1_addObject_44 : decode cX1_addObject 44 = .ok (.lastore, 1) := by decide +kernel
theorem dX1_addObject_45 : decode cX1_addObject 45 = .ok (.iinc 1 1, 3) := by decide +kernel
theorem dX1_addObject_48 : decode cX1_addObject 48 = .ok (.goto (-28), 3) := by decide +kernel
theorem dX1_addObject_51 : decode cX1_addObject 51 = .ok (.aload_n 0, 1) := by decide +kernel
theorem dX1_addObject_52 : decode cX1_addObject 52 = .ok (.getfield 12, 3) := by decide +kernel
theorem dX1_addObject_55 : decode cX1_addObject 55 = .ok (.aload_n 0, 1) := by decide +kernel
theorem dX1_addObject_56 : decode cX1_addObject 56 = .ok (.getfield 18, 3) := by decide +kernel
theorem dX1_addObject_59 : decode cX1_addObject 59 = .ok (.invokevirtual 44, 3) := by decide +kernel
theorem dX1_addObject_62 : decode cX1_addObject 62 = .ok (.aload_n 0, 1) := by decide +kernel
theorem dX1_addObject_63 : decode cX1_addObject 63 = .ok (.getfield 12, 3) := by decide +kernel
theorem dX1_addObject_66 : decode cX1_addObject 66 = .ok (.getfield 60, 3) := by decide +kernel
theorem dX1_addObject_69 : decode cX1_addObject 69 = .ok (.iconst 1, 1) := by decide +kernel
theorem dX1_addObject_70 : decode cX1_addObject 70 = .ok (.isub, 1) := by decide +kernel
theorem dX1_addObject_71 : decode cX1_addObject 71 = .ok (.ireturn, 1) := by decide +kernel
theorem dX1_fromNothing_0 : decode cX1_fromNothing 0 = .ok (.aload_n 0, 1) := by decide +kernel
theorem dX1_fromNothing_1 : decode cX1_fromNothing 1 = .ok (.getfield 40, 3) := by decide +kernel
theorem dX1_fromNothing_4 : decode cX1_fromNothing 4 = .ok (.getfield 63, 3) := by decide +kernel
theorem dX1_fromNothing_7 : decode cX1_fromNothing 7 = .ok (.iload_n 1, 1) := by decide +kernel
theorem dX1_fromNothing_8 : decode cX1_fromNothing 8 = .ok (.aaload, 1) := by decide +kernel
theorem dX1_fromNothing_9 : decode cX1_fromNothing 9 = .ok (.aload_n 0, 1) := by decide +kernel
theorem dX1_fromNothing_10 : decode cX1_fromNothing 10 = .ok (.getfield 12, 3) := by decide +kernel
theorem dX1_fromNothing_13 : decode cX1_fromNothing 13 = .ok (.invokevirtual 67, 3) := by decide +kernel
theorem dX1_fromNothing_16 : decode cX1_fromNothing 16 = .ok (.lreturn, 1) := by decide +kernel
theorem dX1_isFalse_0 : decode cX1_isFalse 0 = .ok (.aload_n 0, 1) := by decide +kernel
theorem dX1_isFalse_1 : decode cX1_isFalse 1 = .ok (.getfield 21, 3) := by decide +kernel
theorem dX1_isFalse_4 : decode cX1_isFalse 4 = .ok (.iload_n 1, 1) := by decide +kernel
theorem dX1_isFalse_5 : decode cX1_isFalse 5 = .ok (.laload, 1) := by decide +kernel
theorem dX1_isFalse_6 : decode cX1_isFalse 6 = .ok (.aload_n 0, 1) := by decide +kernel
theorem dX1_isFalse_7 : decode cX1_isFalse 7 = .ok (.getfield 40, 3) := by decide +kernel
theorem dX1_isFalse_10 : decode cX1_isFalse 10 = .ok (.getfield 63, 3) := by decide +kernel
theorem dX1_isFalse_13 : decode cX1_isFalse 13 = .ok (.iload_n 1, 1) := by decide +kernel
theorem dX1_isFalse_14 : decode cX1_isFalse 14 = .ok (.aaload, 1) := by decide +kernel
theorem dX1_isFalse_15 : decode cX1_isFalse 15 = .ok (.aload_n 0, 1) := by decide +kernel
theorem dX1_isFalse_16 : decode cX1_isFalse 16 = .ok (.getfield 12, 3) := by decide +kernel
theorem dX1_isFalse_19 : decode cX1_isFalse 19 = .ok (.invokevirtual 67, 3) := by decide +kernel
theorem dX1_isFalse_22 : decode cX1_isFalse 22 = .ok (.lcmp, 1) := by decide +kernel
theorem dX1_isFalse_23 : decode cX1_isFalse 23 = .ok (.ifCond .eq 7, 3) := by decide +kernel
theorem dX1_isFalse_26 : decode cX1_isFalse 26 = .ok (.iconst 1, 1) := by decide +kernel
theorem dX1_isFalse_27 : decode cX1_isFalse 27 = .ok (.goto 4, 3) := by decide +kernel
theorem dX1_isFalse_30 : decode cX1_isFalse 30 = .ok (.iconst 0, 1) := by decide +kernel
theorem dX1_isFalse_31 : decode cX1_isFalse 31 = .ok (.ireturn, 1) := by decide +kernel
theorem dX1_firstFalse_0 : decode cX1_firstFalse 0 = .ok (.iconst 0, 1) := by decide +kernel
theorem dX1_firstFalse_1 : decode cX1_firstFalse 1 = .ok (.istore_n 1, 1) := by decide +kernel
theorem dX1_firstFalse_2 : decode cX1_firstFalse 2 = .ok (.iload_n 1, 1) := by decide +kernel
theorem dX1_firstFalse_3 : decode cX1_firstFalse 3 = .ok (.aload_n 0, 1) := by decide +kernel
theorem dX1_firstFalse_4 : decode cX1_firstFalse 4 = .ok (.getfield 40, 3) := by decide +kernel
theorem dX1_firstFalse_7 : decode cX1_firstFalse 7 = .ok (.getfield 48, 3) := by decide +kernel
theorem dX1_firstFalse_10 : decode cX1_firstFalse 10 = .ok (.if_icmp .ge 19, 3) := by decide +kernel
theorem dX1_firstFalse_13 : decode cX1_firstFalse 13 = .ok (.aload_n 0, 1) := by decide +kernel
theorem dX1_firstFalse_14 : decode cX1_firstFalse 14 = .ok (.iload_n 1, 1) := by decide +kernel
theorem dX1_firstFalse_15 : decode cX1_firstFalse 15 = .ok (.invokevirtual 73, 3) := by decide +kernel
theorem dX1_firstFalse_18 : decode cX1_firstFalse 18 = .ok (.ifCond .eq 5, 3) := by decide +kernel
theorem dX1_firstFalse_21 : decode cX1_firstFalse 21 = .ok (.iload_n 1, 1) := by decide +kernel
theorem dX1_firstFalse_22 : decode cX1_firstFalse 22 = .ok (.ireturn, 1) := by decide +kernel
theorem dX1_firstFalse_23 : decode cX1_firstFalse 23 = .ok (.iinc 1 1, 3) := by decide +kernel
theorem dX1_firstFalse_26 : decode cX1_firstFalse 26 = .ok (.goto (-24), 3) := by decide +kernel
theorem dX1_firstFalse_29 : decode cX1_firstFalse 29 = .ok (.iconst (-1), 1) := by decide +kernel
theorem dX1_firstFalse_30 : decode cX1_firstFalse 30 = .ok (.ireturn, 1) := by decide +kernel
theorem dX1_scoreNow_0 : decode cX1_scoreNow 0 = .ok (.lconst 0, 1) := by decide +kernel
theorem dX1_scoreNow_1 : decode cX1_scoreNow 1 = .ok (.lstore_n 2, 1) := by decide +kernel
theorem dX1_scoreNow_2 : decode cX1_scoreNow 2 = .ok (.iconst 0, 1) := by decide +kernel
theorem dX1_scoreNow_3 : decode cX1_scoreNow 3 = .ok (.istore 4, 2) := by decide +kernel
theorem dX1_scoreNow_5 : decode cX1_scoreNow 5 = .ok (.iload 4, 2) := by decide +kernel
theorem dX1_scoreNow_7 : decode cX1_scoreNow 7 = .ok (.aload_n 0, 1) := by decide +kernel
theorem dX1_scoreNow_8 : decode cX1_scoreNow 8 = .ok (.getfield 40, 3) := by decide +kernel
theorem dX1_scoreNow_11 : decode cX1_scoreNow 11 = .ok (.getfield 48, 3) := by decide +kernel
theorem dX1_scoreNow_14 : decode cX1_scoreNow 14 = .ok (.if_icmp .ge 36, 3) := by decide +kernel
theorem dX1_scoreNow_17 : decode cX1_scoreNow 17 = .ok (.aload_n 0, 1) := by decide +kernel
theorem dX1_scoreNow_18 : decode cX1_scoreNow 18 = .ok (.getfield 40, 3) := by decide +kernel
theorem dX1_scoreNow_21 : decode cX1_scoreNow 21 = .ok (.getfield 63, 3) := by decide +kernel
theorem dX1_scoreNow_24 : decode cX1_scoreNow 24 = .ok (.iload 4, 2) := by decide +kernel
theorem dX1_scoreNow_26 : decode cX1_scoreNow 26 = .ok (.aaload, 1) := by decide +kernel
theorem dX1_scoreNow_27 : decode cX1_scoreNow 27 = .ok (.getfield 77, 3) := by decide +kernel
theorem dX1_scoreNow_30 : decode cX1_scoreNow 30 = .ok (.iload_n 1, 1) := by decide +kernel
theorem dX1_scoreNow_31 : decode cX1_scoreNow 31 = .ok (.if_icmp .ne 13, 3) := by decide +kernel
theorem dX1_scoreNow_34 : decode cX1_scoreNow 34 = .ok (.lload_n 2, 1) := by decide +kernel
theorem dX1_scoreNow_35 : decode cX1_scoreNow 35 = .ok (.aload_n 0, 1) := by decide +kernel
theorem dX1_scoreNow_36 : decode cX1_scoreNow 36 = .ok (.getfield 21, 3) := by decide +kernel
theorem dX1_scoreNow_39 : decode cX1_scoreNow 39 = .ok (.iload 4, 2) := by decide +kernel
theorem dX1_scoreNow_41 : decode cX1_scoreNow 41 = .ok (.laload, 1) := by decide +kernel
theorem dX1_scoreNow_42 : decode cX1_scoreNow 42 = .ok (.ladd, 1) := by decide +kernel
theorem dX1_scoreNow_43 : decode cX1_scoreNow 43 = .ok (.lstore_n 2, 1) := by decide +kernel
theorem dX1_scoreNow_44 : decode cX1_scoreNow 44 = .ok (.iinc 4 1, 3) := by decide +kernel
theorem dX1_scoreNow_47 : decode cX1_scoreNow 47 = .ok (.goto (-42), 3) := by decide +kernel
theorem dX1_scoreNow_50 : decode cX1_scoreNow 50 = .ok (.lload_n 2, 1) := by decide +kernel
theorem dX1_scoreNow_51 : decode cX1_scoreNow 51 = .ok (.lreturn, 1) := by decide +kernel
theorem dX1_scoreBehind_0 : decode cX1_scoreBehind 0 = .ok (.aload_n 0, 1) := by decide +kernel
theorem dX1_scoreBehind_1 : decode cX1_scoreBehind 1 = .ok (.iload 4, 2) := by decide +kernel
theorem dX1_scoreBehind_3 : decode cX1_scoreBehind 3 = .ok (.invokevirtual 80, 3) := by decide +kernel
theorem dX1_scoreBehind_6 : decode cX1_scoreBehind 6 = .ok (.lstore 5, 2) := by decide +kernel
theorem dX1_scoreBehind_8 : decode cX1_scoreBehind 8 = .ok (.aload_n 0, 1) := by decide +kernel
theorem dX1_scoreBehind_9 : decode cX1_scoreBehind 9 = .ok (.getfield 12, 3) := by decide +kernel
theorem dX1_scoreBehind_12 : decode cX1_scoreBehind 12 = .ok (.iload_n 1, 1) := by decide +kernel
theorem dX1_scoreBehind_13 : decode cX1_scoreBehind 13 = .ok (.iload_n 2, 1) := by decide +kernel
theorem dX1_scoreBehind_14 : decode cX1_scoreBehind 14 = .ok (.iload_n 3, 1) := by decide +kernel
theorem dX1_scoreBehind_15 : decode cX1_scoreBehind 15 = .ok (.invokevirtual 83, 3) := by decide +kernel
theorem dX1_scoreBehind_18 : decode cX1_scoreBehind 18 = .ok (.ifCond .ne 6, 3) := by decide +kernel
theorem dX1_scoreBehind_21 : decode cX1_scoreBehind 21 = .ok (.lload 5, 2) := by decide +kernel
theorem dX1_scoreBehind_23 : decode cX1_scoreBehind 23 = .ok (.lreturn, 1) := by decide +kernel
theorem dX1_scoreBehind_24 : decode cX1_scoreBehind 24 = .ok (.aload_n 0, 1) := by decide +kernel
theorem dX1_scoreBehind_25 : decode cX1_scoreBehind 25 = .ok (.iload_n 1, 1) := by decide +kernel
theorem dX1_scoreBehind_26 : decode cX1_scoreBehind 26 = .ok (.iload_n 2, 1) := by decide +kernel
theorem dX1_scoreBehind_27 : decode cX1_scoreBehind 27 = .ok (.iload_n 3, 1) := by decide +kernel
theorem dX1_scoreBehind_28 : decode cX1_scoreBehind 28 = .ok (.invokevirtual 87, 3) := by decide +kernel
theorem dX1_scoreBehind_31 : decode cX1_scoreBehind 31 = .ok (.iconst 0, 1) := by decide +kernel
theorem dX1_scoreBehind_32 : decode cX1_scoreBehind 32 = .ok (.istore 7, 2) := by decide +kernel
theorem dX1_scoreBehind_34 : decode cX1_scoreBehind 34 = .ok (.iload 7, 2) := by decide +kernel
theorem dX1_scoreBehind_36 : decode cX1_scoreBehind 36 = .ok (.aload_n 0, 1) := by decide +kernel
theorem dX1_scoreBehind_37 : decode cX1_scoreBehind 37 = .ok (.getfield 40, 3) := by decide +kernel
theorem dX1_scoreBehind_40 : decode cX1_scoreBehind 40 = .ok (.getfield 48, 3) := by decide +kernel
theorem dX1_scoreBehind_43 : decode cX1_scoreBehind 43 = .ok (.if_icmp .ge 38, 3) := by decide +kernel
theorem dX1_scoreBehind_46 : decode cX1_scoreBehind 46 = .ok (.aload_n 0, 1) := by decide +kernel
theorem dX1_scoreBehind_47 : decode cX1_scoreBehind 47 = .ok (.getfield 40, 3) := by decide +kernel
theorem dX1_scoreBehind_50 : decode cX1_scoreBehind 50 = .ok (.getfield 63, 3) := by decide +kernel
theorem dX1_scoreBehind_53 : decode cX1_scoreBehind 53 = .ok (.iload 7, 2) := by decide +kernel
theorem dX1_scoreBehind_55 : decode cX1_scoreBehind 55 = .ok (.aaload, 1) := by decide +kernel
theorem dX1_scoreBehind_56 : decode cX1_scoreBehind 56 = .ok (.getfield 77, 3) := by decide +kernel
theorem dX1_scoreBehind_59 : decode cX1_scoreBehind 59 = .ok (.iload 4, 2) := by decide +kernel
theorem dX1_scoreBehind_61 : decode cX1_scoreBehind 61 = .ok (.if_icmp .ne 14, 3) := by decide +kernel
theorem dX1_scoreBehind_64 : decode cX1_scoreBehind 64 = .ok (.lload 5, 2) := by decide +kernel
theorem dX1_scoreBehind_66 : decode cX1_scoreBehind 66 = .ok (.aload_n 0, 1) := by decide +kernel
theorem dX1_scoreBehind_67 : decode cX1_scoreBehind 67 = .ok (.iload 7, 2) := by decide +kernel
theorem dX1_scoreBehind_69 : decode cX1_scoreBehind 69 = .ok (.invokevirtual 91, 3) := by decide +kernel
theorem dX1_scoreBehind_72 : decode cX1_scoreBehind 72 = .ok (.ladd, 1) := by decide +kernel
theorem dX1_scoreBehind_73 : decode cX1_scoreBehind 73 = .ok (.lstore 5, 2) := by decide +kernel
theorem dX1_scoreBehind_75 : decode cX1_scoreBehind 75 = .ok (.iinc 7 1, 3) := by decide +kernel
theorem dX1_scoreBehind_78 : decode cX1_scoreBehind 78 = .ok (.goto (-44), 3) := by decide +kernel
theorem dX1_scoreBehind_81 : decode cX1_scoreBehind 81 = .ok (.lload 5, 2) := by decide +kernel
theorem dX1_scoreBehind_83 : decode cX1_scoreBehind 83 = .ok (.lreturn, 1) := by decide +kernel
theorem dX1_makeChange_0 : decode cX1_makeChange 0 = .ok (.aload_n 0, 1) := by decide +kernel
theorem dX1_makeChange_1 : decode cX1_makeChange 1 = .ok (.getfield 12, 3) := by decide +kernel
theorem dX1_makeChange_4 : decode cX1_makeChange 4 = .ok (.iload_n 1, 1) := by decide +kernel
theorem dX1_makeChange_5 : decode cX1_makeChange 5 = .ok (.iload_n 2, 1) := by decide +kernel
theorem dX1_makeChange_6 : decode cX1_makeChange 6 = .ok (.iload_n 3, 1) := by decide +kernel
theorem dX1_makeChange_7 : decode cX1_makeChange 7 = .ok (.invokevirtual 83, 3) := by decide +kernel
theorem dX1_makeChange_10 : decode cX1_makeChange 10 = .ok (.ifCond .ne 5, 3) := by decide +kernel
theorem dX1_makeChange_13 : decode cX1_makeChange 13 = .ok (.iconst (-1), 1) := by decide +kernel
theorem dX1_makeChange_14 : decode cX1_makeChange 14 = .ok (.ireturn, 1) := by decide +kernel
theorem dX1_makeChange_15 : decode cX1_makeChange 15 = .ok (.aload_n 0, 1) := by decide +kernel
theorem dX1_makeChange_16 : decode cX1_makeChange 16 = .ok (.getfield 32, 3) := by decide +kernel
theorem dX1_makeChange_19 : decode cX1_makeChange 19 = .ok (.iload_n 1, 1) := by decide +kernel
theorem dX1_makeChange_20 : decode cX1_makeChange 20 = .ok (.iload_n 2, 1) := by decide +kernel
theorem dX1_makeChange_21 : decode cX1_makeChange 21 = .ok (.aload_n 0, 1) := by decide +kernel
theorem dX1_makeChange_22 : decode cX1_makeChange 22 = .ok (.getfield 12, 3) := by decide +kernel
theorem dX1_makeChange_25 : decode cX1_makeChange 25 = .ok (.getfield 94, 3) := by decide +kernel
theorem dX1_makeChange_28 : decode cX1_makeChange 28 = .ok (.iload_n 2, 1) := by decide +kernel
theorem dX1_makeChange_29 : decode cX1_makeChange 29 = .ok (.aaload, 1) := by decide +kernel
theorem dX1_makeChange_30 : decode cX1_makeChange 30 = .ok (.iload_n 1, 1) := by decide +kernel
theorem dX1_makeChange_31 : decode cX1_makeChange 31 = .ok (.iaload, 1) := by decide +kernel
theorem dX1_makeChange_32 : decode cX1_makeChange 32 = .ok (.aload_n 0, 1) := by decide +kernel
theorem dX1_makeChange_33 : decode cX1_makeChange 33 = .ok (.getfield 21, 3) := by decide +kernel
theorem dX1_makeChange_36 : decode cX1_makeChange 36 = .ok (.invokevirtual 98, 3) := by decide +kernel
theorem dX1_makeChange_39 : decode cX1_makeChange 39 = .ok (.aload_n 0, 1) := by decide +kernel
theorem dX1_makeChange_40 : decode cX1_makeChange 40 = .ok (.getfield 102, 3) := by decide +kernel
theorem dX1_makeChange_43 : decode cX1_makeChange 43 = .ok (.ifCond .eq 18, 3) := by decide +kernel
theorem dX1_makeChange_46 : decode cX1_makeChange 46 = .ok (.aload_n 0, 1) := by decide +kernel
theorem dX1_makeChange_47 : decode cX1_makeChange 47 = .ok (.aload_n 0, 1) := by decide +kernel
theorem dX1_makeChange_48 : decode cX1_makeChange 48 = .ok (.getfield 106, 3) := by decide +kernel
theorem dX1_makeChange_51 : decode cX1_makeChange 51 = .ok (.iconst 1, 1) := by decide +kernel
theorem dX1_makeChange_52 : decode cX1_makeChange 52 = .ok (.iadd, 1) := by decide +kernel
theorem dX1_makeChange_53 : decode cX1_makeChange 53 = .ok (.bipush 60, 2) := by decide +kernel
theorem dX1_makeChange_55 : decode cX1_makeChange 55 = .ok (.invokestatic 109, 3) := by decide +kernel
theorem dX1_makeChange_58 : decode cX1_makeChange 58 = .ok (.putfield 106, 3) := by decide +kernel
theorem dX1_makeChange_61 : decode cX1_makeChange 61 = .ok (.aload_n 0, 1) := by decide +kernel
theorem dX1_makeChange_62 : decode cX1_makeChange 62 = .ok (.iload_n 1, 1) := by decide +kernel
theorem dX1_makeChange_63 : decode cX1_makeChange 63 = .ok (.iload_n 2, 1) := by decide +kernel
theorem dX1_makeChange_64 : decode cX1_makeChange 64 = .ok (.iload_n 3, 1) := by decide +kernel
theorem dX1_makeChange_65 : decode cX1_makeChange 65 = .ok (.invokevirtual 87, 3) := by decide +kernel
theorem dX1_makeChange_68 : decode cX1_makeChange 68 = .ok (.iconst 0, 1) := by decide +kernel
theorem dX1_makeChange_69 : decode cX1_makeChange 69 = .ok (.istore 5, 2) := by decide +kernel
theorem dX1_makeChange_71 : decode cX1_makeChange 71 = .ok (.iload 5, 2) := by decide +kernel
theorem dX1_makeChange_73 : decode cX1_makeChange 73 = .ok (.aload_n 0, 1) := by decide +kernel
theorem dX1_makeChange_74 : decode cX1_makeChange 74 = .ok (.getfield 40, 3) := by decide +kernel
theorem dX1_makeChange_77 : decode cX1_makeChange 77 = .ok (.getfield 48, 3) := by decide +kernel
theorem dX1_makeChange_80 : decode cX1_makeChange 80 = .ok (.if_icmp .ge 25, 3) := by decide +kernel
theorem dX1_makeChange_83 : decode cX1_makeChange 83 = .ok (.aload_n 0, 1) := by decide +kernel
theorem dX1_makeChange_84 : decode cX1_makeChange 84 = .ok (.getfield 21, 3) := by decide +kernel
theorem dX1_makeChange_87 : decode cX1_makeChange 87 = .ok (.iload 5, 2) := by decide +kernel
theorem dX1_makeChange_89 : decode cX1_makeChange 89 = .ok (.dup2, 1) := by decide +kernel
theorem dX1_makeChange_90 : decode cX1_makeChange 90 = .ok (.laload, 1) := by decide +kernel
theorem dX1_makeChange_91 : decode cX1_makeChange 91 = .ok (.aload_n 0, 1) := by decide +kernel
theorem dX1_makeChange_92 : decode cX1_makeChange 92 = .ok (.iload 5, 2) := by decide +kernel
theorem dX1_makeChange_94 : decode cX1_makeChange 94 = .ok (.invokevirtual 91, 3) := by decide +kernel
theorem dX1_makeChange_97 : decode cX1_makeChange 97 = .ok (.ladd, 1) := by decide +kernel
theorem dX1_makeChange_98 : decode cX1_makeChange 98 = .ok (.lastore, 1) := by decide +kernel
theorem dX1_makeChange_99 : decode cX1_makeChange 99 = .ok (.iinc 5 1, 3) := by decide +kernel
theorem dX1_makeChange_102 : decode cX1_makeChange 102 = .ok (.goto (-31), 3) := by decide +kernel
theorem dX1_makeChange_105 : decode cX1_makeChange 105 = .ok (.aload_n 0, 1) := by decide +kernel
theorem dX1_makeChange_106 : decode cX1_makeChange 106 = .ok (.getfield 12, 3) := by decide +kernel
theorem dX1_makeChange_109 : decode cX1_makeChange 109 = .ok (.aload_n 0, 1) := by decide +kernel
theorem dX1_makeChange_110 : decode cX1_makeChange 110 = .ok (.getfield 18, 3) := by decide +kernel
theorem dX1_makeChange_113 : decode cX1_makeChange 113 = .ok (.invokevirtual 115, 3) := by decide +kernel
theorem dX1_makeChange_116 : decode cX1_makeChange 116 = .ok (.istore 5, 2) := by decide +kernel
theorem dX1_makeChange_118 : decode cX1_makeChange 118 = .ok (.aload_n 0, 1) := by decide +kernel
theorem dX1_makeChange_119 : decode cX1_makeChange 119 = .ok (.invokevirtual 119, 3) := by decide +kernel
theorem dX1_makeChange_122 : decode cX1_makeChange 122 = .ok (.aload_n 0, 1) := by decide +kernel
theorem dX1_makeChange_123 : decode cX1_makeChange 123 = .ok (.dup, 1) := by decide +kernel
theorem dX1_makeChange_124 : decode cX1_makeChange 124 = .ok (.getfield 122, 3) := by decide +kernel
theorem dX1_makeChange_127 : decode cX1_makeChange 127 = .ok (.iconst 1, 1) := by decide +kernel
theorem dX1_makeChange_128 : decode cX1_makeChange 128 = .ok (.iadd, 1) := by decide +kernel
theorem dX1_makeChange_129 : decode cX1_makeChange 129 = .ok (.putfield 122, 3) := by decide +kernel
theorem dX1_makeChange_132 : decode cX1_makeChange 132 = .ok (.iload 4, 2) := by decide +kernel
theorem dX1_makeChange_134 : decode cX1_makeChange 134 = .ok (.ifCond .le 21, 3) := by decide +kernel
theorem dX1_makeChange_137 : decode cX1_makeChange 137 = .ok (.aload_n 0, 1) := by decide +kernel
theorem dX1_makeChange_138 : decode cX1_makeChange 138 = .ok (.getfield 122, 3) := by decide +kernel
theorem dX1_makeChange_141 : decode cX1_makeChange 141 = .ok (.iload 4, 2) := by decide +kernel
theorem dX1_makeChange_143 : decode cX1_makeChange 143 = .ok (.irem, 1) := by decide +kernel
theorem dX1_makeChange_144 : decode cX1_makeChange 144 = .ok (.ifCond .ne 11, 3) := by decide +kernel
theorem dX1_makeChange_147 : decode cX1_makeChange 147 = .ok (.aload_n 0, 1) := by decide +kernel
theorem dX1_makeChange_148 : decode cX1_makeChange 148 = .ok (.aload_n 0, 1) := by decide +kernel
theorem dX1_makeChange_149 : decode cX1_makeChange 149 = .ok (.invokevirtual 125, 3) := by decide +kernel
theorem dX1_makeChange_152 : decode cX1_makeChange 152 = .ok (.putfield 36, 3) := by decide +kernel
theorem dX1_makeChange_155 : decode cX1_makeChange 155 = .ok (.iload 5, 2) := by decide +kernel
theorem dX1_makeChange_157 : decode cX1_makeChange 157 = .ok (.ireturn, 1) := by decide +kernel
theorem dX1_undoable_0 : decode cX1_undoable 0 = .ok (.aload_n 0, 1) := by decide +kernel
theorem dX1_undoable_1 : decode cX1_undoable 1 = .ok (.getfield 102, 3) := by decide +kernel
theorem dX1_undoable_4 : decode cX1_undoable 4 = .ok (.ifCond .eq 10, 3) := by decide +kernel
theorem dX1_undoable_7 : decode cX1_undoable 7 = .ok (.aload_n 0, 1) := by decide +kernel
theorem dX1_undoable_8 : decode cX1_undoable 8 = .ok (.getfield 106, 3) := by decide +kernel
theorem dX1_undoable_11 : decode cX1_undoable 11 = .ok (.goto 10, 3) := by decide +kernel
theorem dX1_undoable_14 : decode cX1_undoable 14 = .ok (.aload_n 0, 1) := by decide +kernel
theorem dX1_undoable_15 : decode cX1_undoable 15 = .ok (.getfield 32, 3) := by decide +kernel
theorem dX1_undoable_18 : decode cX1_undoable 18 = .ok (.getfield 129, 3) := by decide +kernel
theorem dX1_undoable_21 : decode cX1_undoable 21 = .ok (.ireturn, 1) := by decide +kernel
theorem dX1_takeBack_0 : decode cX1_takeBack 0 = .ok (.aload_n 0, 1) := by decide +kernel
theorem dX1_takeBack_1 : decode cX1_takeBack 1 = .ok (.getfield 32, 3) := by decide +kernel
theorem dX1_takeBack_4 : decode cX1_takeBack 4 = .ok (.invokevirtual 132, 3) := by decide +kernel
theorem dX1_takeBack_7 : decode cX1_takeBack 7 = .ok (.istore_n 1, 1) := by decide +kernel
theorem dX1_takeBack_8 : decode cX1_takeBack 8 = .ok (.aload_n 0, 1) := by decide +kernel
theorem dX1_takeBack_9 : decode cX1_takeBack 9 = .ok (.getfield 102, 3) := by decide +kernel
theorem dX1_takeBack_12 : decode cX1_takeBack 12 = .ok (.ifCond .eq 13, 3) := by decide +kernel
theorem dX1_takeBack_15 : decode cX1_takeBack 15 = .ok (.aload_n 0, 1) := by decide +kernel
theorem dX1_takeBack_16 : decode cX1_takeBack 16 = .ok (.dup, 1) := by decide +kernel
theorem dX1_takeBack_17 : decode cX1_takeBack 17 = .ok (.getfield 106, 3) := by decide +kernel
theorem dX1_takeBack_20 : decode cX1_takeBack 20 = .ok (.iconst 1, 1) := by decide +kernel
theorem dX1_takeBack_21 : decode cX1_takeBack 21 = .ok (.isub, 1) := by decide +kernel
theorem dX1_takeBack_22 : decode cX1_takeBack 22 = .ok (.putfield 106, 3) := by decide +kernel
theorem dX1_takeBack_25 : decode cX1_takeBack 25 = .ok (.aload_n 0, 1) := by decide +kernel
theorem dX1_takeBack_26 : decode cX1_takeBack 26 = .ok (.aload_n 0, 1) := by decide +kernel
theorem dX1_takeBack_27 : decode cX1_takeBack 27 = .ok (.getfield 32, 3) := by decide +kernel
theorem dX1_takeBack_30 : decode cX1_takeBack 30 = .ok (.getfield 135, 3) := by decide +kernel
theorem dX1_takeBack_33 : decode cX1_takeBack 33 = .ok (.iload_n 1, 1) := by decide +kernel
theorem dX1_takeBack_34 : decode cX1_takeBack 34 = .ok (.iaload, 1) := by decide +kernel
theorem dX1_takeBack_35 : decode cX1_takeBack 35 = .ok (.aload_n 0, 1) := by decide +kernel
theorem dX1_takeBack_36 : decode cX1_takeBack 36 = .ok (.getfield 32, 3) := by decide +kernel
theorem dX1_takeBack_39 : decode cX1_takeBack 39 = .ok (.getfield 138, 3) := by decide +kernel
theorem dX1_takeBack_42 : decode cX1_takeBack 42 = .ok (.iload_n 1, 1) := by decide +kernel
theorem dX1_takeBack_43 : decode cX1_takeBack 43 = .ok (.iaload, 1) := by decide +kernel
theorem dX1_takeBack_44 : decode cX1_takeBack 44 = .ok (.aload_n 0, 1) := by decide +kernel
theorem dX1_takeBack_45 : decode cX1_takeBack 45 = .ok (.getfield 32, 3) := by decide +kernel
theorem dX1_takeBack_48 : decode cX1_takeBack 48 = .ok (.getfield 141, 3) := by decide +kernel
theorem dX1_takeBack_51 : decode cX1_takeBack 51 = .ok (.iload_n 1, 1) := by decide +kernel
theorem dX1_takeBack_52 : decode cX1_takeBack 52 = .ok (.iaload, 1) := by decide +kernel
theorem dX1_takeBack_53 : decode cX1_takeBack 53 = .ok (.invokevirtual 87, 3) := by decide +kernel
theorem dX1_takeBack_56 : decode cX1_takeBack 56 = .ok (.aload_n 0, 1) := by decide +kernel
theorem dX1_takeBack_57 : decode cX1_takeBack 57 = .ok (.getfield 32, 3) := by decide +kernel
theorem dX1_takeBack_60 : decode cX1_takeBack 60 = .ok (.getfield 144, 3) := by decide +kernel
theorem dX1_takeBack_63 : decode cX1_takeBack 63 = .ok (.iload_n 1, 1) := by decide +kernel
theorem dX1_takeBack_64 : decode cX1_takeBack 64 = .ok (.aaload, 1) := by decide +kernel
theorem dX1_takeBack_65 : decode cX1_takeBack 65 = .ok (.iconst 0, 1) := by decide +kernel
theorem dX1_takeBack_66 : decode cX1_takeBack 66 = .ok (.aload_n 0, 1) := by decide +kernel
theorem dX1_takeBack_67 : decode cX1_takeBack 67 = .ok (.getfield 21, 3) := by decide +kernel
theorem dX1_takeBack_70 : decode cX1_takeBack 70 = .ok (.iconst 0, 1) := by decide +kernel
theorem dX1_takeBack_71 : decode cX1_takeBack 71 = .ok (.bipush 12, 2) := by decide +kernel
theorem dX1_takeBack_73 : decode cX1_takeBack 73 = .ok (.invokestatic 147, 3) := by decide +kernel
theorem dX1_takeBack_76 : decode cX1_takeBack 76 = .ok (.aload_n 0, 1) := by decide +kernel
theorem dX1_takeBack_77 : decode cX1_takeBack 77 = .ok (.invokevirtual 119, 3) := by decide +kernel
theorem dX1_takeBack_80 : decode cX1_takeBack 80 = .ok (.return_, 1) := by decide +kernel
theorem dX1_closeBatch_0 : decode cX1_closeBatch 0 = .ok (.aload_n 0, 1) := by decide +kernel
theorem dX1_closeBatch_1 : decode cX1_closeBatch 1 = .ok (.getfield 106, 3) := by decide +kernel
theorem dX1_closeBatch_4 : decode cX1_closeBatch 4 = .ok (.istore_n 2, 1) := by decide +kernel
theorem dX1_closeBatch_5 : decode cX1_closeBatch 5 = .ok (.iconst 0, 1) := by decide +kernel
theorem dX1_closeBatch_6 : decode cX1_closeBatch 6 = .ok (.istore_n 3, 1) := by decide +kernel
theorem dX1_closeBatch_7 : decode cX1_closeBatch 7 = .ok (.iload_n 3, 1) := by decide +kernel
theorem dX1_closeBatch_8 : decode cX1_closeBatch 8 = .ok (.iload_n 2, 1) := by decide +kernel
theorem dX1_closeBatch_9 : decode cX1_closeBatch 9 = .ok (.if_icmp .ge 17, 3) := by decide +kernel
theorem dX1_closeBatch_12 : decode cX1_closeBatch 12 = .ok (.iload_n 1, 1) := by decide +kernel
theorem dX1_closeBatch_13 : decode cX1_closeBatch 13 = .ok (.ifCond .ne 13, 3) := by decide +kernel
theorem dX1_closeBatch_16 : decode cX1_closeBatch 16 = .ok (.aload_n 0, 1) := by decide +kernel
theorem dX1_closeBatch_17 : decode cX1_closeBatch 17 = .ok (.invokevirtual 153, 3) := by decide +kernel
theorem dX1_closeBatch_20 : decode cX1_closeBatch 20 = .ok (.iinc 3 1, 3) := by decide +kernel
theorem dX1_closeBatch_23 : decode cX1_closeBatch 23 = .ok (.goto (-16), 3) := by decide +kernel
theorem dX1_closeBatch_26 : decode cX1_closeBatch 26 = .ok (.aload_n 0, 1) := by decide +kernel
theorem dX1_closeBatch_27 : decode cX1_closeBatch 27 = .ok (.iconst 0, 1) := by decide +kernel
theorem dX1_closeBatch_28 : decode cX1_closeBatch 28 = .ok (.putfield 102, 3) := by decide +kernel
theorem dX1_closeBatch_31 : decode cX1_closeBatch 31 = .ok (.iload_n 2, 1) := by decide +kernel
theorem dX1_closeBatch_32 : decode cX1_closeBatch 32 = .ok (.ireturn, 1) := by decide +kernel
theorem dX1_figure_0 : decode cX1_figure 0 = .ok (.iload_n 1, 1) := by decide +kernel
theorem dX1_figure_1 : decode cX1_figure 1 = .ok (.tableswitch 75 0 5 #[39, 44, 52, 57, 62, 70], 39) := by decide +kernel
theorem dX1_figure_40 : decode cX1_figure 40 = .ok (.aload_n 0, 1) := by decide +kernel
theorem dX1_figure_41 : decode cX1_figure 41 = .ok (.getfield 122, 3) := by decide +kernel
theorem dX1_figure_44 : decode cX1_figure 44 = .ok (.ireturn, 1) := by decide +kernel
theorem dX1_figure_45 : decode cX1_figure 45 = .ok (.aload_n 0, 1) := by decide +kernel
theorem dX1_figure_46 : decode cX1_figure 46 = .ok (.getfield 32, 3) := by decide +kernel
theorem dX1_figure_49 : decode cX1_figure 49 = .ok (.getfield 129, 3) := by decide +kernel
theorem dX1_figure_52 : decode cX1_figure 52 = .ok (.ireturn, 1) := by decide +kernel
theorem dX1_figure_53 : decode cX1_figure 53 = .ok (.aload_n 0, 1) := by decide +kernel
theorem dX1_figure_54 : decode cX1_figure 54 = .ok (.getfield 156, 3) := by decide +kernel
theorem dX1_figure_57 : decode cX1_figure 57 = .ok (.ireturn, 1) := by decide +kernel
theorem dX1_figure_58 : decode cX1_figure 58 = .ok (.aload_n 0, 1) := by decide +kernel
theorem dX1_figure_59 : decode cX1_figure 59 = .ok (.getfield 36, 3) := by decide +kernel
theorem dX1_figure_62 : decode cX1_figure 62 = .ok (.ireturn, 1) := by decide +kernel
theorem dX1_figure_63 : decode cX1_figure 63 = .ok (.aload_n 0, 1) := by decide +kernel
theorem dX1_figure_64 : decode cX1_figure 64 = .ok (.getfield 102, 3) := by decide +kernel
theorem dX1_figure_67 : decode cX1_figure 67 = .ok (.invokestatic 159, 3) := by decide +kernel
theorem dX1_figure_70 : decode cX1_figure 70 = .ok (.ireturn, 1) := by decide +kernel
theorem dX1_figure_71 : decode cX1_figure 71 = .ok (.aload_n 0, 1) := by decide +kernel
theorem dX1_figure_72 : decode cX1_figure 72 = .ok (.invokevirtual 163, 3) := by decide +kernel
theorem dX1_figure_75 : decode cX1_figure 75 = .ok (.ireturn, 1) := by decide +kernel
theorem dX1_figure_76 : decode cX1_figure 76 = .ok (.iconst (-1), 1) := by decide +kernel
theorem dX1_figure_77 : decode cX1_figure 77 = .ok (.ireturn, 1) := by decide +kernel
theorem dX1_countForgetting_0 : decode cX1_countForgetting 0 = .ok (.iconst 0, 1) := by decide +kernel
theorem dX1_countForgetting_1 : decode cX1_countForgetting 1 = .ok (.istore_n 1, 1) := by decide +kernel
theorem dX1_countForgetting_2 : decode cX1_countForgetting 2 = .ok (.iconst 0, 1) := by decide +kernel
theorem dX1_countForgetting_3 : decode cX1_countForgetting 3 = .ok (.istore_n 2, 1) := by decide +kernel
theorem dX1_countForgetting_4 : decode cX1_countForgetting 4 = .ok (.iload_n 2, 1) := by decide +kernel
theorem dX1_countForgetting_5 : decode cX1_countForgetting 5 = .ok (.aload_n 0, 1) := by decide +kernel
theorem dX1_countForgetting_6 : decode cX1_countForgetting 6 = .ok (.getfield 40, 3) := by decide +kernel
theorem dX1_countForgetting_9 : decode cX1_countForgetting 9 = .ok (.getfield 48, 3) := by decide +kernel
theorem dX1_countForgetting_12 : decode cX1_countForgetting 12 = .ok (.if_icmp .ge 21, 3) := by decide +kernel
theorem dX1_countForgetting_15 : decode cX1_countForgetting 15 = .ok (.iload_n 1, 1) := by decide +kernel
theorem dX1_countForgetting_16 : decode cX1_countForgetting 16 = .ok (.aload_n 0, 1) := by decide +kernel
theorem dX1_countForgetting_17 : decode cX1_countForgetting 17 = .ok (.getfield 25, 3) := by decide +kernel
theorem dX1_countForgetting_20 : decode cX1_countForgetting 20 = .ok (.iload_n 2, 1) := by decide +kernel
theorem dX1_countForgetting_21 : decode cX1_countForgetting 21 = .ok (.baload, 1) := by decide +kernel
theorem dX1_countForgetting_22 : decode cX1_countForgetting 22 = .ok (.invokestatic 159, 3) := by decide +kernel
theorem dX1_countForgetting_25 : decode cX1_countForgetting 25 = .ok (.iadd, 1) := by decide +kernel
theorem dX1_countForgetting_26 : decode cX1_countForgetting 26 = .ok (.istore_n 1, 1) := by decide +kernel
theorem dX1_countForgetting_27 : decode cX1_countForgetting 27 = .ok (.iinc 2 1, 3) := by decide +kernel
theorem dX1_countForgetting_30 : decode cX1_countForgetting 30 = .ok (.goto (-26), 3) := by decide +kernel
theorem dX1_countForgetting_33 : decode cX1_countForgetting 33 = .ok (.iload_n 1, 1) := by decide +kernel
theorem dX1_countForgetting_34 : decode cX1_countForgetting 34 = .ok (.ireturn, 1) := by decide +kernel
theorem dX1_layOut_0 : decode cX1_layOut 0 = .ok (.aload_n 0, 1) := by decide +kernel
theorem dX1_layOut_1 : decode cX1_layOut 1 = .ok (.getfield 18, 3) := by decide +kernel
theorem dX1_layOut_4 : decode cX1_layOut 4 = .ok (.aload_n 0, 1) := by decide +kernel
theorem dX1_layOut_5 : decode cX1_layOut 5 = .ok (.getfield 12, 3) := by decide +kernel
theorem dX1_layOut_8 : decode cX1_layOut 8 = .ok (.invokevirtual 44, 3) := by decide +kernel
theorem dX1_layOut_11 : decode cX1_layOut 11 = .ok (.aload_n 0, 1) := by decide +kernel
theorem dX1_layOut_12 : decode cX1_layOut 12 = .ok (.getfield 18, 3) := by decide +kernel
theorem dX1_layOut_15 : decode cX1_layOut 15 = .ok (.iload_n 1, 1) := by decide +kernel
theorem dX1_layOut_16 : decode cX1_layOut 16 = .ok (.iload_n 2, 1) := by decide +kernel
theorem dX1_layOut_17 : decode cX1_layOut 17 = .ok (.iload_n 3, 1) := by decide +kernel
theorem dX1_layOut_18 : decode cX1_layOut 18 = .ok (.invokevirtual 166, 3) := by decide +kernel
theorem dX1_layOut_21 : decode cX1_layOut 21 = .ok (.return_, 1) := by decide +kernel
theorem dX1_moveOn_0 : decode cX1_moveOn 0 = .ok (.iconst 0, 1) := by decide +kernel
theorem dX1_moveOn_1 : decode cX1_moveOn 1 = .ok (.istore_n 1, 1) := by decide +kernel
theorem dX1_moveOn_2 : decode cX1_moveOn 2 = .ok (.iload_n 1, 1) := by decide +kernel
theorem dX1_moveOn_3 : decode cX1_moveOn 3 = .ok (.aload_n 0, 1) := by decide +kernel
theorem dX1_moveOn_4 : decode cX1_moveOn 4 = .ok (.getfield 40, 3) := by decide +kernel
theorem dX1_moveOn_7 : decode cX1_moveOn 7 = .ok (.getfield 48, 3) := by decide +kernel
theorem dX1_moveOn_10 : decode cX1_moveOn 10 = .ok (.if_icmp .ge 38, 3) := by decide +kernel
theorem dX1_moveOn_13 : decode cX1_moveOn 13 = .ok (.aload_n 0, 1) := by decide +kernel
theorem dX1_moveOn_14 : decode cX1_moveOn 14 = .ok (.dup, 1) := by decide +kernel
theorem dX1_moveOn_15 : decode cX1_moveOn 15 = .ok (.getfield 156, 3) := by decide +kernel
theorem dX1_moveOn_18 : decode cX1_moveOn 18 = .ok (.aload_n 0, 1) := by decide +kernel
theorem dX1_moveOn_19 : decode cX1_moveOn 19 = .ok (.getfield 40, 3) := by decide +kernel
theorem dX1_moveOn_22 : decode cX1_moveOn 22 = .ok (.getfield 63, 3) := by decide +kernel
theorem dX1_moveOn_25 : decode cX1_moveOn 25 = .ok (.iload_n 1, 1) := by decide +kernel
theorem dX1_moveOn_26 : decode cX1_moveOn 26 = .ok (.aaload, 1) := by decide +kernel
theorem dX1_moveOn_27 : decode cX1_moveOn 27 = .ok (.aload_n 0, 1) := by decide +kernel
theorem dX1_moveOn_28 : decode cX1_moveOn 28 = .ok (.getfield 12, 3) := by decide +kernel
theorem dX1_moveOn_31 : decode cX1_moveOn 31 = .ok (.aload_n 0, 1) := by decide +kernel
theorem dX1_moveOn_32 : decode cX1_moveOn 32 = .ok (.getfield 18, 3) := by decide +kernel
theorem dX1_moveOn_35 : decode cX1_moveOn 35 = .ok (.invokevirtual 169, 3) := by decide +kernel
theorem dX1_moveOn_38 : decode cX1_moveOn 38 = .ok (.iadd, 1) := by decide +kernel
theorem dX1_moveOn_39 : decode cX1_moveOn 39 = .ok (.putfield 156, 3) := by decide +kernel
theorem dX1_moveOn_42 : decode cX1_moveOn 42 = .ok (.iinc 1 1, 3) := by decide +kernel
theorem dX1_moveOn_45 : decode cX1_moveOn 45 = .ok (.goto (-43), 3) := by decide +kernel
theorem dX1_moveOn_48 : decode cX1_moveOn 48 = .ok (.aload_n 0, 1) := by decide +kernel
theorem dX1_moveOn_49 : decode cX1_moveOn 49 = .ok (.getfield 12, 3) := by decide +kernel
theorem dX1_moveOn_52 : decode cX1_moveOn 52 = .ok (.aload_n 0, 1) := by decide +kernel
theorem dX1_moveOn_53 : decode cX1_moveOn 53 = .ok (.getfield 18, 3) := by decide +kernel
theorem dX1_moveOn_56 : decode cX1_moveOn 56 = .ok (.invokevirtual 44, 3) := by decide +kernel
theorem dX1_moveOn_59 : decode cX1_moveOn 59 = .ok (.return_, 1) := by decide +kernel
theorem dX1_gainUnlessForgotten_0 : decode cX1_gainUnlessForgotten 0 = .ok (.aload_n 0, 1) := by decide +kernel
theorem dX1_gainUnlessForgotten_1 : decode cX1_gainUnlessForgotten 1 = .ok (.getfield 25, 3) := by decide +kernel
theorem dX1_gainUnlessForgotten_4 : decode cX1_gainUnlessForgotten 4 = .ok (.iload_n 1, 1) := by decide +kernel
theorem dX1_gainUnlessForgotten_5 : decode cX1_gainUnlessForgotten 5 = .ok (.baload, 1) := by decide +kernel
theorem dX1_gainUnlessForgotten_6 : decode cX1_gainUnlessForgotten 6 = .ok (.ifCond .ne 26, 3) := by decide +kernel
theorem dX1_gainUnlessForgotten_9 : decode cX1_gainUnlessForgotten 9 = .ok (.aload_n 0, 1) := by decide +kernel
theorem dX1_gainUnlessForgotten_10 : decode cX1_gainUnlessForgotten 10 = .ok (.getfield 40, 3) := by decide +kernel
theorem dX1_gainUnlessForgotten_13 : decode cX1_gainUnlessForgotten 13 = .ok (.getfield 63, 3) := by decide +kernel
theorem dX1_gainUnlessForgotten_16 : decode cX1_gainUnlessForgotten 16 = .ok (.iload_n 1, 1) := by decide +kernel
theorem dX1_gainUnlessForgotten_17 : decode cX1_gainUnlessForgotten 17 = .ok (.aaload, 1) := by decide +kernel
theorem dX1_gainUnlessForgotten_18 : decode cX1_gainUnlessForgotten 18 = .ok (.aload_n 0, 1) := by decide +kernel
theorem dX1_gainUnlessForgotten_19 : decode cX1_gainUnlessForgotten 19 = .ok (.getfield 12, 3) := by decide +kernel
theorem dX1_gainUnlessForgotten_22 : decode cX1_gainUnlessForgotten 22 = .ok (.aload_n 0, 1) := by decide +kernel
theorem dX1_gainUnlessForgotten_23 : decode cX1_gainUnlessForgotten 23 = .ok (.getfield 18, 3) := by decide +kernel
theorem dX1_gainUnlessForgotten_26 : decode cX1_gainUnlessForgotten 26 = .ok (.invokevirtual 169, 3) := by decide +kernel
theorem dX1_gainUnlessForgotten_29 : decode cX1_gainUnlessForgotten 29 = .ok (.ifCond .ne 7, 3) := by decide +kernel
theorem dX1_gainUnlessForgotten_32 : decode cX1_gainUnlessForgotten 32 = .ok (.iconst 1, 1) := by decide +kernel
theorem dX1_gainUnlessForgotten_33 : decode cX1_gainUnlessForgotten 33 = .ok (.goto 4, 3) := by decide +kernel
theorem dX1_gainUnlessForgotten_36 : decode cX1_gainUnlessForgotten 36 = .ok (.iconst 0, 1) := by decide +kernel
theorem dX1_gainUnlessForgotten_37 : decode cX1_gainUnlessForgotten 37 = .ok (.istore_n 2, 1) := by decide +kernel
theorem dX1_gainUnlessForgotten_38 : decode cX1_gainUnlessForgotten 38 = .ok (.iload_n 2, 1) := by decide +kernel
theorem dX1_gainUnlessForgotten_39 : decode cX1_gainUnlessForgotten 39 = .ok (.ifCond .eq 7, 3) := by decide +kernel
theorem dX1_gainUnlessForgotten_42 : decode cX1_gainUnlessForgotten 42 = .ok (.lconst 0, 1) := by decide +kernel
theorem dX1_gainUnlessForgotten_43 : decode cX1_gainUnlessForgotten 43 = .ok (.goto 8, 3) := by decide +kernel
theorem dX1_gainUnlessForgotten_46 : decode cX1_gainUnlessForgotten 46 = .ok (.aload_n 0, 1) := by decide +kernel
theorem dX1_gainUnlessForgotten_47 : decode cX1_gainUnlessForgotten 47 = .ok (.iload_n 1, 1) := by decide +kernel
theorem dX1_gainUnlessForgotten_48 : decode cX1_gainUnlessForgotten 48 = .ok (.invokevirtual 56, 3) := by decide +kernel
theorem dX1_gainUnlessForgotten_51 : decode cX1_gainUnlessForgotten 51 = .ok (.lreturn, 1) := by decide +kernel
theorem dX1_gain_0 : decode cX1_gain 0 = .ok (.aload_n 0, 1) := by decide +kernel
theorem dX1_gain_1 : decode cX1_gain 1 = .ok (.getfield 40, 3) := by decide +kernel
theorem dX1_gain_4 : decode cX1_gain 4 = .ok (.getfield 63, 3) := by decide +kernel
theorem dX1_gain_7 : decode cX1_gain 7 = .ok (.iload_n 1, 1) := by decide +kernel
theorem dX1_gain_8 : decode cX1_gain 8 = .ok (.aaload, 1) := by decide +kernel
theorem dX1_gain_9 : decode cX1_gain 9 = .ok (.aload_n 0, 1) := by decide +kernel
theorem dX1_gain_10 : decode cX1_gain 10 = .ok (.getfield 18, 3) := by decide +kernel
theorem dX1_gain_13 : decode cX1_gain 13 = .ok (.invokevirtual 67, 3) := by decide +kernel
theorem dX1_gain_16 : decode cX1_gain 16 = .ok (.aload_n 0, 1) := by decide +kernel
theorem dX1_gain_17 : decode cX1_gain 17 = .ok (.getfield 40, 3) := by decide +kernel
theorem dX1_gain_20 : decode cX1_gain 20 = .ok (.getfield 63, 3) := by decide +kernel
theorem dX1_gain_23 : decode cX1_gain 23 = .ok (.iload_n 1, 1) := by decide +kernel
theorem dX1_gain_24 : decode cX1_gain 24 = .ok (.aaload, 1) := by decide +kernel
theorem dX1_gain_25 : decode cX1_gain 25 = .ok (.aload_n 0, 1) := by decide +kernel
theorem dX1_gain_26 : decode cX1_gain 26 = .ok (.getfield 12, 3) := by decide +kernel
theorem dX1_gain_29 : decode cX1_gain 29 = .ok (.invokevirtual 67, 3) := by decide +kernel
theorem dX1_gain_32 : decode cX1_gain 32 = .ok (.lsub, 1) := by decide +kernel
theorem dX1_gain_33 : decode cX1_gain 33 = .ok (.lreturn, 1) := by decide +kernel
theorem dX2_init_0 : decode cX2_init 0 = .ok (.aload_n 0, 1) := by decide +kernel
theorem dX2_init_1 : decode cX2_init 1 = .ok (.invokespecial 3, 3) := by decide +kernel
theorem dX2_init_4 : decode cX2_init 4 = .ok (.aload_n 0, 1) := by decide +kernel
theorem dX2_init_5 : decode cX2_init 5 = .ok (.iload_n 1, 1) := by decide +kernel
theorem dX2_init_6 : decode cX2_init 6 = .ok (.putfield 9, 3) := by decide +kernel
theorem dX2_init_9 : decode cX2_init 9 = .ok (.aload_n 0, 1) := by decide +kernel
theorem dX2_init_10 : decode cX2_init 10 = .ok (.iload_n 2, 1) := by decide +kernel
theorem dX2_init_11 : decode cX2_init 11 = .ok (.putfield 15, 3) := by decide +kernel
theorem dX2_init_14 : decode cX2_init 14 = .ok (.aload_n 0, 1) := by decide +kernel
theorem dX2_init_15 : decode cX2_init 15 = .ok (.iload_n 3, 1) := by decide +kernel
theorem dX2_init_16 : decode cX2_init 16 = .ok (.putfield 18, 3) := by decide +kernel
theorem dX2_init_19 : decode cX2_init 19 = .ok (.aload_n 0, 1) := by decide +kernel
theorem dX2_init_20 : decode cX2_init 20 = .ok (.iload 4, 2) := by decide +kernel
theorem dX2_init_22 : decode cX2_init 22 = .ok (.putfield 21, 3) := by decide +kernel
theorem dX2_init_25 : decode cX2_init 25 = .ok (.aload_n 0, 1) := by decide +kernel
theorem dX2_init_26 : decode cX2_init 26 = .ok (.iload 5, 2) := by decide +kernel
theorem dX2_init_28 : decode cX2_init 28 = .ok (.putfield 24, 3) := by decide +kernel
theorem dX2_init_31 : decode cX2_init 31 = .ok (.return_, 1) := by decide +kernel
theorem dX2_fromNothing_0 : decode cX2_fromNothing 0 = .ok (.aload_n 1, 1) := by decide +kernel
theorem dX2_fromNothing_1 : decode cX2_fromNothing 1 = .ok (.getfield 27, 3) := by decide +kernel
theorem dX2_fromNothing_4 : decode cX2_fromNothing 4 = .ok (.aload_n 0, 1) := by decide +kernel
theorem dX2_fromNothing_5 : decode cX2_fromNothing 5 = .ok (.getfield 15, 3) := by decide +kernel
theorem dX2_fromNothing_8 : decode cX2_fromNothing 8 = .ok (.aaload, 1) := by decide +kernel
theorem dX2_fromNothing_9 : decode cX2_fromNothing 9 = .ok (.astore_n 2, 1) := by decide +kernel
theorem dX2_fromNothing_10 : decode cX2_fromNothing 10 = .ok (.aload_n 1, 1) := by decide +kernel
theorem dX2_fromNothing_11 : decode cX2_fromNothing 11 = .ok (.getfield 33, 3) := by decide +kernel
theorem dX2_fromNothing_14 : decode cX2_fromNothing 14 = .ok (.istore_n 3, 1) := by decide +kernel
theorem dX2_fromNothing_15 : decode cX2_fromNothing 15 = .ok (.aload_n 0, 1) := by decide +kernel
theorem dX2_fromNothing_16 : decode cX2_fromNothing 16 = .ok (.getfield 9, 3) := by decide +kernel
theorem dX2_fromNothing_19 : decode cX2_fromNothing 19 = .ok (.tableswitch 114 0 4 #[33, 46, 68, 89, 101], 33) := by decide +kernel
theorem dX2_fromNothing_52 : decode cX2_fromNothing 52 = .ok (.aload_n 0, 1) := by decide +kernel
theorem dX2_fromNothing_53 : decode cX2_fromNothing 53 = .ok (.getfield 21, 3) := by decide +kernel
theorem dX2_fromNothing_56 : decode cX2_fromNothing 56 = .ok (.i2l, 1) := by decide +kernel
theorem dX2_fromNothing_57 : decode cX2_fromNothing 57 = .ok (.aload_n 0, 1) := by decide +kernel
theorem dX2_fromNothing_58 : decode cX2_fromNothing 58 = .ok (.aload_n 2, 1) := by decide +kernel
theorem dX2_fromNothing_59 : decode cX2_fromNothing 59 = .ok (.iload_n 3, 1) := by decide +kernel
theorem dX2_fromNothing_60 : decode cX2_fromNothing 60 = .ok (.invokevirtual 36, 3) := by decide +kernel
theorem dX2_fromNothing_63 : decode cX2_fromNothing 63 = .ok (.lmul, 1) := by decide +kernel
theorem dX2_fromNothing_64 : decode cX2_fromNothing 64 = .ok (.lreturn, 1) := by decide +kernel
theorem dX2_fromNothing_65 : decode cX2_fromNothing 65 = .ok (.aload_n 0, 1) := by decide +kernel
theorem dX2_fromNothing_66 : decode cX2_fromNothing 66 = .ok (.getfield 21, 3) := by decide +kernel
theorem dX2_fromNothing_69 : decode cX2_fromNothing 69 = .ok (.i2l, 1) := by decide +kernel
theorem dX2_fromNothing_70 : decode cX2_fromNothing 70 = .ok (.lconst 0, 1) := by decide +kernel
theorem dX2_fromNothing_71 : decode cX2_fromNothing 71 = .ok (.aload_n 2, 1) := by decide +kernel
theorem dX2_fromNothing_72 : decode cX2_fromNothing 72 = .ok (.iload_n 3, 1) := by decide +kernel
theorem dX2_fromNothing_73 : decode cX2_fromNothing 73 = .ok (.invokestatic 40, 3) := by decide +kernel
theorem dX2_fromNothing_76 : decode cX2_fromNothing 76 = .ok (.aload_n 0, 1) := by decide +kernel
theorem dX2_fromNothing_77 : decode cX2_fromNothing 77 = .ok (.getfield 18, 3) := by decide +kernel
theorem dX2_fromNothing_80 : decode cX2_fromNothing 80 = .ok (.i2l, 1) := by decide +kernel
theorem dX2_fromNothing_81 : decode cX2_fromNothing 81 = .ok (.lsub, 1) := by decide +kernel
theorem dX2_fromNothing_82 : decode cX2_fromNothing 82 = .ok (.invokestatic 43, 3) := by decide +kernel
theorem dX2_fromNothing_85 : decode cX2_fromNothing 85 = .ok (.lmul, 1) := by decide +kernel
theorem dX2_fromNothing_86 : decode cX2_fromNothing 86 = .ok (.lreturn, 1) := by decide +kernel
theorem dX2_fromNothing_87 : decode cX2_fromNothing 87 = .ok (.aload_n 0, 1) := by decide +kernel
theorem dX2_fromNothing_88 : decode cX2_fromNothing 88 = .ok (.getfield 21, 3) := by decide +kernel
theorem dX2_fromNothing_91 : decode cX2_fromNothing 91 = .ok (.i2l, 1) := by decide +kernel
theorem dX2_fromNothing_92 : decode cX2_fromNothing 92 = .ok (.aload_n 2, 1) := by decide +kernel
theorem dX2_fromNothing_93 : decode cX2_fromNothing 93 = .ok (.iload_n 3, 1) := by decide +kernel
theorem dX2_fromNothing_94 : decode cX2_fromNothing 94 = .ok (.invokestatic 40, 3) := by decide +kernel
theorem dX2_fromNothing_97 : decode cX2_fromNothing 97 = .ok (.aload_n 0, 1) := by decide +kernel
theorem dX2_fromNothing_98 : decode cX2_fromNothing 98 = .ok (.getfield 18, 3) := by decide +kernel
theorem dX2_fromNothing_101 : decode cX2_fromNothing 101 = .ok (.i2l, 1) := by decide +kernel
theorem dX2_fromNothing_102 : decode cX2_fromNothing 102 = .ok (.lsub, 1) := by decide +kernel
theorem dX2_fromNothing_103 : decode cX2_fromNothing 103 = .ok (.invokestatic 49, 3) := by decide +kernel
theorem dX2_fromNothing_106 : decode cX2_fromNothing 106 = .ok (.lmul, 1) := by decide +kernel
theorem dX2_fromNothing_107 : decode cX2_fromNothing 107 = .ok (.lreturn, 1) := by decide +kernel
theorem dX2_fromNothing_108 : decode cX2_fromNothing 108 = .ok (.aload_n 0, 1) := by decide +kernel
theorem dX2_fromNothing_109 : decode cX2_fromNothing 109 = .ok (.getfield 21, 3) := by decide +kernel
theorem dX2_fromNothing_112 : decode cX2_fromNothing 112 = .ok (.i2l, 1) := by decide +kernel
theorem dX2_fromNothing_113 : decode cX2_fromNothing 113 = .ok (.aload_n 2, 1) := by decide +kernel
theorem dX2_fromNothing_114 : decode cX2_fromNothing 114 = .ok (.iload_n 3, 1) := by decide +kernel
theorem dX2_fromNothing_115 : decode cX2_fromNothing 115 = .ok (.invokestatic 53, 3) := by decide +kernel
theorem dX2_fromNothing_118 : decode cX2_fromNothing 118 = .ok (.lmul, 1) := by decide +kernel
theorem dX2_fromNothing_119 : decode cX2_fromNothing 119 = .ok (.lreturn, 1) := by decide +kernel
theorem dX2_fromNothing_120 : decode cX2_fromNothing 120 = .ok (.aload_n 0, 1) := by decide +kernel
theorem dX2_fromNothing_121 : decode cX2_fromNothing 121 = .ok (.getfield 21, 3) := by decide +kernel
theorem dX2_fromNothing_124 : decode cX2_fromNothing 124 = .ok (.i2l, 1) := by decide +kernel
theorem dX2_fromNothing_125 : decode cX2_fromNothing 125 = .ok (.aload_n 0, 1) := by decide +kernel
theorem dX2_fromNothing_126 : decode cX2_fromNothing 126 = .ok (.aload_n 2, 1) := by decide +kernel
theorem dX2_fromNothing_127 : decode cX2_fromNothing 127 = .ok (.iload_n 3, 1) := by decide +kernel
theorem dX2_fromNothing_128 : decode cX2_fromNothing 128 = .ok (.invokevirtual 56, 3) := by decide +kernel
theorem dX2_fromNothing_131 : decode cX2_fromNothing 131 = .ok (.lmul, 1) := by decide +kernel
theorem dX2_fromNothing_132 : decode cX2_fromNothing 132 = .ok (.lreturn, 1) := by decide +kernel
theorem dX2_fromNothing_133 : decode cX2_fromNothing 133 = .ok (.aload_n 0, 1) := by decide +kernel
theorem dX2_fromNothing_134 : decode cX2_fromNothing 134 = .ok (.getfield 21, 3) := by decide +kernel
theorem dX2_fromNothing_137 : decode cX2_fromNothing 137 = .ok (.i2l, 1) := by decide +kernel
theorem dX2_fromNothing_138 : decode cX2_fromNothing 138 = .ok (.aload_n 2, 1) := by decide +kernel
theorem dX2_fromNothing_139 : decode cX2_fromNothing 139 = .ok (.aload_n 1, 1) := by decide +kernel
theorem dX2_fromNothing_140 : decode cX2_fromNothing 140 = .ok (.invokestatic 59, 3) := by decide +kernel
theorem dX2_fromNothing_143 : decode cX2_fromNothing 143 = .ok (.lmul, 1) := by decide +kernel
theorem dX2_fromNothing_144 : decode cX2_fromNothing 144 = .ok (.lreturn, 1) := by decide +kernel
theorem dX2_eachAbove_0 : decode cX2_eachAbove 0 = .ok (.lconst 0, 1) := by decide +kernel
theorem dX2_eachAbove_1 : decode cX2_eachAbove 1 = .ok (.lstore_n 3, 1) := by decide +kernel
theorem dX2_eachAbove_2 : decode cX2_eachAbove 2 = .ok (.iconst 0, 1) := by decide +kernel
theorem dX2_eachAbove_3 : decode cX2_eachAbove 3 = .ok (.istore 5, 2) := by decide +kernel
theorem dX2_eachAbove_5 : decode cX2_eachAbove 5 = .ok (.iload 5, 2) := by decide +kernel
theorem dX2_eachAbove_7 : decode cX2_eachAbove 7 = .ok (.iload_n 2, 1) := by decide +kernel
theorem dX2_eachAbove_8 : decode cX2_eachAbove 8 = .ok (.if_icmp .ge 26, 3) := by decide +kernel
theorem dX2_eachAbove_11 : decode cX2_eachAbove 11 = .ok (.lload_n 3, 1) := by decide +kernel
theorem dX2_eachAbove_12 : decode cX2_eachAbove 12 = .ok (.iconst 0, 1) := by decide +kernel
theorem dX2_eachAbove_13 : decode cX2_eachAbove 13 = .ok (.aload_n 1, 1) := by decide +kernel
theorem dX2_eachAbove_14 : decode cX2_eachAbove 14 = .ok (.iload 5, 2) := by decide +kernel
theorem dX2_eachAbove_16 : decode cX2_eachAbove 16 = .ok (.iaload, 1) := by decide +kernel
theorem dX2_eachAbove_17 : decode cX2_eachAbove 17 = .ok (.aload_n 0, 1) := by decide +kernel
theorem dX2_eachAbove_18 : decode cX2_eachAbove 18 = .ok (.getfield 18, 3) := by decide +kernel
theorem dX2_eachAbove_21 : decode cX2_eachAbove 21 = .ok (.isub, 1) := by decide +kernel
theorem dX2_eachAbove_22 : decode cX2_eachAbove 22 = .ok (.invokestatic 63, 3) := by decide +kernel
theorem dX2_eachAbove_25 : decode cX2_eachAbove 25 = .ok (.i2l, 1) := by decide +kernel
theorem dX2_eachAbove_26 : decode cX2_eachAbove 26 = .ok (.ladd, 1) := by decide +kernel
theorem dX2_eachAbove_27 : decode cX2_eachAbove 27 = .ok (.lstore_n 3, 1) := by decide +kernel
theorem dX2_eachAbove_28 : decode cX2_eachAbove 28 = .ok (.iinc 5 1, 3) := by decide +kernel
theorem dX2_eachAbove_31 : decode cX2_eachAbove 31 = .ok (.goto (-26), 3) := by decide +kernel
theorem dX2_eachAbove_34 : decode cX2_eachAbove 34 = .ok (.lload_n 3, 1) := by decide +kernel
theorem dX2_eachAbove_35 : decode cX2_eachAbove 35 = .ok (.lreturn, 1) := by decide +kernel
theorem dX2_sum_0 : decode cX2_sum 0 = .ok (.lconst 0, 1) := by decide +kernel
theorem dX2_sum_1 : decode cX2_sum 1 = .ok (.lstore_n 2, 1) := by decide +kernel
theorem dX2_sum_2 : decode cX2_sum 2 = .ok (.iconst 0, 1) := by decide +kernel
theorem dX2_sum_3 : decode cX2_sum 3 = .ok (.istore 4, 2) := by decide +kernel
theorem dX2_sum_5 : decode cX2_sum 5 = .ok (.iload 4, 2) := by decide +kernel
theorem dX2_sum_7 : decode cX2_sum 7 = .ok (.iload_n 1, 1) := by decide +kernel
theorem dX2_sum_8 : decode cX2_sum 8 = .ok (.if_icmp .ge 17, 3) := by decide +kernel
theorem dX2_sum_11 : decode cX2_sum 11 = .ok (.lload_n 2, 1) := by decide +kernel
theorem dX2_sum_12 : decode cX2_sum 12 = .ok (.aload_n 0, 1) := by decide +kernel
theorem dX2_sum_13 : decode cX2_sum 13 = .ok (.iload 4, 2) := by decide +kernel
theorem dX2_sum_15 : decode cX2_sum 15 = .ok (.iaload, 1) := by decide +kernel
theorem dX2_sum_16 : decode cX2_sum 16 = .ok (.i2l, 1) := by decide +kernel
theorem dX2_sum_17 : decode cX2_sum 17 = .ok (.ladd, 1) := by decide +kernel
theorem dX2_sum_18 : decode cX2_sum 18 = .ok (.lstore_n 2, 1) := by decide +kernel
theorem dX2_sum_19 : decode cX2_sum 19 = .ok (.iinc 4 1, 3) := by decide +kernel
theorem dX2_sum_22 : decode cX2_sum 22 = .ok (.goto (-17), 3) := by decide +kernel
theorem dX2_sum_25 : decode cX2_sum 25 = .ok (.lload_n 2, 1) := by decide +kernel
theorem dX2_sum_26 : decode cX2_sum 26 = .ok (.lreturn, 1) := by decide +kernel
theorem dX2_equalPairs_0 : decode cX2_equalPairs 0 = .ok (.lconst 0, 1) := by decide +kernel
theorem dX2_equalPairs_1 : decode cX2_equalPairs 1 = .ok (.lstore_n 2, 1) := by decide +kernel
theorem dX2_equalPairs_2 : decode cX2_equalPairs 2 = .ok (.iconst 0, 1) := by decide +kernel
theorem dX2_equalPairs_3 : decode cX2_equalPairs 3 = .ok (.istore 4, 2) := by decide +kernel
theorem dX2_equalPairs_5 : decode cX2_equalPairs 5 = .ok (.iload 4, 2) := by decide +kernel
theorem dX2_equalPairs_7 : decode cX2_equalPairs 7 = .ok (.iload_n 1, 1) := by decide +kernel
theorem dX2_equalPairs_8 : decode cX2_equalPairs 8 = .ok (.if_icmp .ge 24, 3) := by decide +kernel
theorem dX2_equalPairs_11 : decode cX2_equalPairs 11 = .ok (.lload_n 2, 1) := by decide +kernel
theorem dX2_equalPairs_12 : decode cX2_equalPairs 12 = .ok (.aload_n 0, 1) := by decide +kernel
theorem dX2_equalPairs_13 : decode cX2_equalPairs 13 = .ok (.iload 4, 2) := by decide +kernel
theorem dX2_equalPairs_15 : decode cX2_equalPairs 15 = .ok (.iaload, 1) := by decide +kernel
theorem dX2_equalPairs_16 : decode cX2_equalPairs 16 = .ok (.aload_n 0, 1) := by decide +kernel
theorem dX2_equalPairs_17 : decode cX2_equalPairs 17 = .ok (.iconst 0, 1) := by decide +kernel
theorem dX2_equalPairs_18 : decode cX2_equalPairs 18 = .ok (.iload 4, 2) := by decide +kernel
theorem dX2_equalPairs_20 : decode cX2_equalPairs 20 = .ok (.invokestatic 66, 3) := by decide +kernel
theorem dX2_equalPairs_23 : decode cX2_equalPairs 23 = .ok (.i2l, 1) := by decide +kernel
theorem dX2_equalPairs_24 : decode cX2_equalPairs 24 = .ok (.ladd, 1) := by decide +kernel
theorem dX2_equalPairs_25 : decode cX2_equalPairs 25 = .ok (.lstore_n 2, 1) := by decide +kernel
theorem dX2_equalPairs_26 : decode cX2_equalPairs 26 = .ok (.iinc 4 1, 3) := by decide +kernel
theorem dX2_equalPairs_29 : decode cX2_equalPairs 29 = .ok (.goto (-24), 3) := by decide +kernel
theorem dX2_equalPairs_32 : decode cX2_equalPairs 32 = .ok (.lload_n 2, 1) := by decide +kernel
theorem dX2_equalPairs_33 : decode cX2_equalPairs 33 = .ok (.lreturn, 1) := by decide +kernel
theorem dX2_crowds_0 : decode cX2_crowds 0 = .ok (.iconst 0, 1) := by decide +kernel
theorem dX2_crowds_1 : decode cX2_crowds 1 = .ok (.aload_n 0, 1) := by decide +kernel
theorem dX2_crowds_2 : decode cX2_crowds 2 = .ok (.getfield 18, 3) := by decide +kernel
theorem dX2_crowds_5 : decode cX2_crowds 5 = .ok (.invokestatic 63, 3) := by decide +kernel
theorem dX2_crowds_8 : decode cX2_crowds 8 = .ok (.istore_n 3, 1) := by decide +kernel
theorem dX2_crowds_9 : decode cX2_crowds 9 = .ok (.lconst 0, 1) := by decide +kernel
theorem dX2_crowds_10 : decode cX2_crowds 10 = .ok (.lstore 4, 2) := by decide +kernel
theorem dX2_crowds_12 : decode cX2_crowds 12 = .ok (.iconst 0, 1) := by decide +kernel
theorem dX2_crowds_13 : decode cX2_crowds 13 = .ok (.istore 6, 2) := by decide +kernel
theorem dX2_crowds_15 : decode cX2_crowds 15 = .ok (.iload 6, 2) := by decide +kernel
theorem dX2_crowds_17 : decode cX2_crowds 17 = .ok (.iload_n 2, 1) := by decide +kernel
theorem dX2_crowds_18 : decode cX2_crowds 18 = .ok (.if_icmp .ge 58, 3) := by decide +kernel
theorem dX2_crowds_21 : decode cX2_crowds 21 = .ok (.aload_n 1, 1) := by decide +kernel
theorem dX2_crowds_22 : decode cX2_crowds 22 = .ok (.iload 6, 2) := by decide +kernel
theorem dX2_crowds_24 : decode cX2_crowds 24 = .ok (.iaload, 1) := by decide +kernel
theorem dX2_crowds_25 : decode cX2_crowds 25 = .ok (.aload_n 1, 1) := by decide +kernel
theorem dX2_crowds_26 : decode cX2_crowds 26 = .ok (.iconst 0, 1) := by decide +kernel
theorem dX2_crowds_27 : decode cX2_crowds 27 = .ok (.iload 6, 2) := by decide +kernel
theorem dX2_crowds_29 : decode cX2_crowds 29 = .ok (.invokestatic 66, 3) := by decide +kernel
theorem dX2_crowds_32 : decode cX2_crowds 32 = .ok (.ifCond .ne 7, 3) := by decide +kernel
theorem dX2_crowds_35 : decode cX2_crowds 35 = .ok (.iconst 1, 1) := by decide +kernel
theorem dX2_crowds_36 : decode cX2_crowds 36 = .ok (.goto 4, 3) := by decide +kernel
theorem dX2_crowds_39 : decode cX2_crowds 39 = .ok (.iconst 0, 1) := by decide +kernel
theorem dX2_crowds_40 : decode cX2_crowds 40 = .ok (.istore 7, 2) := by decide +kernel
theorem dX2_crowds_42 : decode cX2_crowds 42 = .ok (.iload 7, 2) := by decide +kernel
theorem dX2_crowds_44 : decode cX2_crowds 44 = .ok (.ifCond .eq 26, 3) := by decide +kernel
theorem dX2_crowds_47 : decode cX2_crowds 47 = .ok (.lload 4, 2) := by decide +kernel
theorem dX2_crowds_49 : decode cX2_crowds 49 = .ok (.iconst 0, 1) := by decide +kernel
theorem dX2_crowds_50 : decode cX2_crowds 50 = .ok (.aload_n 1, 1) := by decide +kernel
theorem dX2_crowds_51 : decode cX2_crowds 51 = .ok (.iload 6, 2) := by decide +kernel
theorem dX2_crowds_53 : decode cX2_crowds 53 = .ok (.iaload, 1) := by decide +kernel
theorem dX2_crowds_54 : decode cX2_crowds 54 = .ok (.aload_n 1, 1) := by decide +kernel
theorem dX2_crowds_55 : decode cX2_crowds 55 = .ok (.iload 6, 2) := by decide +kernel
theorem dX2_crowds_57 : decode cX2_crowds 57 = .ok (.iload_n 2, 1) := by decide +kernel
theorem dX2_crowds_58 : decode cX2_crowds 58 = .ok (.invokestatic 66, 3) := by decide +kernel
theorem dX2_crowds_61 : decode cX2_crowds 61 = .ok (.iload_n 3, 1) := by decide +kernel
theorem dX2_crowds_62 : decode cX2_crowds 62 = .ok (.isub, 1) := by decide +kernel
theorem dX2_crowds_63 : decode cX2_crowds 63 = .ok (.invokestatic 63, 3) := by decide +kernel
theorem dX2_crowds_66 : decode cX2_crowds 66 = .ok (.i2l, 1) := by decide +kernel
theorem dX2_crowds_67 : decode cX2_crowds 67 = .ok (.ladd, 1) := by decide +kernel
theorem dX2_crowds_68 : decode cX2_crowds 68 = .ok (.lstore 4, 2) := by decide +kernel
theorem dX2_crowds_70 : decode cX2_crowds 70 = .ok (.iinc 6 1, 3) := by decide +kernel
theorem dX2_crowds_73 : decode cX2_crowds 73 = .ok (.goto (-58), 3) := by decide +kernel
theorem dX2_crowds_76 : decode cX2_crowds 76 = .ok (.lload 4, 2) := by decide +kernel
theorem dX2_crowds_78 : decode cX2_crowds 78 = .ok (.lreturn, 1) := by decide +kernel
theorem dX2_countOf_0 : decode cX2_countOf 0 = .ok (.iconst 0, 1) := by decide +kernel
theorem dX2_countOf_1 : decode cX2_countOf 1 = .ok (.istore 4, 2) := by decide +kernel
theorem dX2_countOf_3 : decode cX2_countOf 3 = .ok (.iload_n 2, 1) := by decide +kernel
theorem dX2_countOf_4 : decode cX2_countOf 4 = .ok (.istore 5, 2) := by decide +kernel
theorem dX2_countOf_6 : decode cX2_countOf 6 = .ok (.iload 5, 2) := by decide +kernel
theorem dX2_countOf_8 : decode cX2_countOf 8 = .ok (.iload_n 3, 1) := by decide +kernel
theorem dX2_countOf_9 : decode cX2_countOf 9 = .ok (.if_icmp .ge 20, 3) := by decide +kernel
theorem dX2_countOf_12 : decode cX2_countOf 12 = .ok (.aload_n 1, 1) := by decide +kernel
theorem dX2_countOf_13 : decode cX2_countOf 13 = .ok (.iload 5, 2) := by decide +kernel
theorem dX2_countOf_15 : decode cX2_countOf 15 = .ok (.iaload, 1) := by decide +kernel
theorem dX2_countOf_16 : decode cX2_countOf 16 = .ok (.iload_n 0, 1) := by decide +kernel
theorem dX2_countOf_17 : decode cX2_countOf 17 = .ok (.if_icmp .ne 6, 3) := by decide +kernel
theorem dX2_countOf_20 : decode cX2_countOf 20 = .ok (.iinc 4 1, 3) := by decide +kernel
theorem dX2_countOf_23 : decode cX2_countOf 23 = .ok (.iinc 5 1, 3) := by decide +kernel
theorem dX2_countOf_26 : decode cX2_countOf 26 = .ok (.goto (-20), 3) := by decide +kernel
theorem dX2_countOf_29 : decode cX2_countOf 29 = .ok (.iload 4, 2) := by decide +kernel
theorem dX2_countOf_31 : decode cX2_countOf 31 = .ok (.ireturn, 1) := by decide +kernel
theorem dX2_lessThanBefore_0 : decode cX2_lessThanBefore 0 = .ok (.lconst 0, 1) := by decide +kernel
theorem dX2_lessThanBefore_1 : decode cX2_lessThanBefore 1 = .ok (.lstore_n 2, 1) := by decide +kernel
theorem dX2_lessThanBefore_2 : decode cX2_lessThanBefore 2 = .ok (.iconst 0, 1) := by decide +kernel
theorem dX2_lessThanBefore_3 : decode cX2_lessThanBefore 3 = .ok (.istore 4, 2) := by decide +kernel
theorem dX2_lessThanBefore_5 : decode cX2_lessThanBefore 5 = .ok (.iload 4, 2) := by decide +kernel
theorem dX2_lessThanBefore_7 : decode cX2_lessThanBefore 7 = .ok (.aload_n 1, 1) := by decide +kernel
theorem dX2_lessThanBefore_8 : decode cX2_lessThanBefore 8 = .ok (.getfield 33, 3) := by decide +kernel
theorem dX2_lessThanBefore_11 : decode cX2_lessThanBefore 11 = .ok (.if_icmp .ge 52, 3) := by decide +kernel
theorem dX2_lessThanBefore_14 : decode cX2_lessThanBefore 14 = .ok (.aload_n 1, 1) := by decide +kernel
theorem dX2_lessThanBefore_15 : decode cX2_lessThanBefore 15 = .ok (.getfield 27, 3) := by decide +kernel
theorem dX2_lessThanBefore_18 : decode cX2_lessThanBefore 18 = .ok (.iconst 2, 1) := by decide +kernel
theorem dX2_lessThanBefore_19 : decode cX2_lessThanBefore 19 = .ok (.aaload, 1) := by decide +kernel
theorem dX2_lessThanBefore_20 : decode cX2_lessThanBefore 20 = .ok (.iload 4, 2) := by decide +kernel
theorem dX2_lessThanBefore_22 : decode cX2_lessThanBefore 22 = .ok (.iaload, 1) := by decide +kernel
theorem dX2_lessThanBefore_23 : decode cX2_lessThanBefore 23 = .ok (.istore 5, 2) := by decide +kernel
theorem dX2_lessThanBefore_25 : decode cX2_lessThanBefore 25 = .ok (.lload_n 2, 1) := by decide +kernel
theorem dX2_lessThanBefore_26 : decode cX2_lessThanBefore 26 = .ok (.aload_n 1, 1) := by decide +kernel
theorem dX2_lessThanBefore_27 : decode cX2_lessThanBefore 27 = .ok (.iload 5, 2) := by decide +kernel
theorem dX2_lessThanBefore_29 : decode cX2_lessThanBefore 29 = .ok (.invokevirtual 70, 3) := by decide +kernel
theorem dX2_lessThanBefore_32 : decode cX2_lessThanBefore 32 = .ok (.ifCond .eq 18, 3) := by decide +kernel
theorem dX2_lessThanBefore_35 : decode cX2_lessThanBefore 35 = .ok (.aload_n 0, 1) := by decide +kernel
theorem dX2_lessThanBefore_36 : decode cX2_lessThanBefore 36 = .ok (.iload 5, 2) := by decide +kernel
theorem dX2_lessThanBefore_38 : decode cX2_lessThanBefore 38 = .ok (.iaload, 1) := by decide +kernel
theorem dX2_lessThanBefore_39 : decode cX2_lessThanBefore 39 = .ok (.aload_n 0, 1) := by decide +kernel
theorem dX2_lessThanBefore_40 : decode cX2_lessThanBefore 40 = .ok (.iload 4, 2) := by decide +kernel
theorem dX2_lessThanBefore_42 : decode cX2_lessThanBefore 42 = .ok (.iaload, 1) := by decide +kernel
theorem dX2_lessThanBefore_43 : decode cX2_lessThanBefore 43 = .ok (.if_icmp .le 7, 3) := by decide +kernel
theorem dX2_lessThanBefore_46 : decode cX2_lessThanBefore 46 = .ok (.iconst 1, 1) := by decide +kernel
theorem dX2_lessThanBefore_47 : decode cX2_lessThanBefore 47 = .ok (.goto 4, 3) := by decide +kernel
theorem dX2_lessThanBefore_50 : decode cX2_lessThanBefore 50 = .ok (.iconst 0, 1) := by decide +kernel
theorem dX2_lessThanBefore_51 : decode cX2_lessThanBefore 51 = .ok (.invokestatic 74, 3) := by decide +kernel
theorem dX2_lessThanBefore_54 : decode cX2_lessThanBefore 54 = .ok (.i2l, 1) := by decide +kernel
theorem dX2_lessThanBefore_55 : decode cX2_lessThanBefore 55 = .ok (.ladd, 1) := by decide +kernel
theorem dX2_lessThanBefore_56 : decode cX2_lessThanBefore 56 = .ok (.lstore_n 2, 1) := by decide +kernel
theorem dX2_lessThanBefore_57 : decode cX2_lessThanBefore 57 = .ok (.iinc 4 1, 3) := by decide +kernel
theorem dX2_lessThanBefore_60 : decode cX2_lessThanBefore 60 = .ok (.goto (-55), 3) := by decide +kernel
theorem dX2_lessThanBefore_63 : decode cX2_lessThanBefore 63 = .ok (.lload_n 2, 1) := by decide +kernel
theorem dX2_lessThanBefore_64 : decode cX2_lessThanBefore 64 = .ok (.lreturn, 1) := by decide +kernel
theorem dX2_countTouched_0 : decode cX2_countTouched 0 = .ok (.iconst 0, 1) := by decide +kernel
theorem dX2_countTouched_1 : decode cX2_countTouched 1 = .ok (.istore_n 3, 1) := by decide +kernel
theorem dX2_countTouched_2 : decode cX2_countTouched 2 = .ok (.iconst 0, 1) := by decide +kernel
theorem dX2_countTouched_3 : decode cX2_countTouched 3 = .ok (.istore 4, 2) := by decide +kernel
theorem dX2_countTouched_5 : decode cX2_countTouched 5 = .ok (.iload 4, 2) := by decide +kernel
theorem dX2_countTouched_7 : decode cX2_countTouched 7 = .ok (.aload_n 1, 1) := by decide +kernel
theorem dX2_countTouched_8 : decode cX2_countTouched 8 = .ok (.getfield 33, 3) := by decide +kernel
theorem dX2_countTouched_11 : decode cX2_countTouched 11 = .ok (.if_icmp .ge 100, 3) := by decide +kernel
theorem dX2_countTouched_14 : decode cX2_countTouched 14 = .ok (.aload_n 1, 1) := by decide +kernel
theorem dX2_countTouched_15 : decode cX2_countTouched 15 = .ok (.getfield 27, 3) := by decide +kernel
theorem dX2_countTouched_18 : decode cX2_countTouched 18 = .ok (.aload_n 0, 1) := by decide +kernel
theorem dX2_countTouched_19 : decode cX2_countTouched 19 = .ok (.getfield 15, 3) := by decide +kernel
theorem dX2_countTouched_22 : decode cX2_countTouched 22 = .ok (.aaload, 1) := by decide +kernel
theorem dX2_countTouched_23 : decode cX2_countTouched 23 = .ok (.iload 4, 2) := by decide +kernel
theorem dX2_countTouched_25 : decode cX2_countTouched 25 = .ok (.iaload, 1) := by decide +kernel
theorem dX2_countTouched_26 : decode cX2_countTouched 26 = .ok (.aload_n 2, 1) := by decide +kernel
theorem dX2_countTouched_27 : decode cX2_countTouched 27 = .ok (.getfield 27, 3) := by decide +kernel
theorem dX2_countTouched_30 : decode cX2_countTouched 30 = .ok (.aload_n 0, 1) := by decide +kernel
theorem dX2_countTouched_31 : decode cX2_countTouched 31 = .ok (.getfield 15, 3) := by decide +kernel
theorem dX2_countTouched_34 : decode cX2_countTouched 34 = .ok (.aaload, 1) := by decide +kernel
theorem dX2_countTouched_35 : decode cX2_countTouched 35 = .ok (.iload 4, 2) := by decide +kernel
theorem dX2_countTouched_37 : decode cX2_countTouched 37 = .ok (.iaload, 1) := by decide +kernel
theorem dX2_countTouched_38 : decode cX2_countTouched 38 = .ok (.if_icmp .eq 7, 3) := by decide +kernel
theorem dX2_countTouched_41 : decode cX2_countTouched 41 = .ok (.iconst 1, 1) := by decide +kernel
theorem dX2_countTouched_42 : decode cX2_countTouched 42 = .ok (.goto 4, 3) := by decide +kernel
theorem dX2_countTouched_45 : decode cX2_countTouched 45 = .ok (.iconst 0, 1) := by decide +kernel
theorem dX2_countTouched_46 : decode cX2_countTouched 46 = .ok (.istore 5, 2) := by decide +kernel
theorem dX2_countTouched_48 : decode cX2_countTouched 48 = .ok (.aload_n 0, 1) := by decide +kernel
theorem dX2_countTouched_49 : decode cX2_countTouched 49 = .ok (.getfield 9, 3) := by decide +kernel
theorem dX2_countTouched_52 : decode cX2_countTouched 52 = .ok (.iconst 5, 1) := by decide +kernel
theorem dX2_countTouched_53 : decode cX2_countTouched 53 = .ok (.if_icmp .ne 28, 3) := by decide +kernel
theorem dX2_countTouched_56 : decode cX2_countTouched 56 = .ok (.aload_n 1, 1) := by decide +kernel
theorem dX2_countTouched_57 : decode cX2_countTouched 57 = .ok (.getfield 27, 3) := by decide +kernel
theorem dX2_countTouched_60 : decode cX2_countTouched 60 = .ok (.iconst 2, 1) := by decide +kernel
theorem dX2_countTouched_61 : decode cX2_countTouched 61 = .ok (.aaload, 1) := by decide +kernel
theorem dX2_countTouched_62 : decode cX2_countTouched 62 = .ok (.iload 4, 2) := by decide +kernel
theorem dX2_countTouched_64 : decode cX2_countTouched 64 = .ok (.iaload, 1) := by decide +kernel
theorem dX2_countTouched_65 : decode cX2_countTouched 65 = .ok (.aload_n 2, 1) := by decide +kernel
theorem dX2_countTouched_66 : decode cX2_countTouched 66 = .ok (.getfield 27, 3) := by decide +kernel
theorem dX2_countTouched_69 : decode cX2_countTouched 69 = .ok (.iconst 2, 1) := by decide +kernel
theorem dX2_countTouched_70 : decode cX2_countTouched 70 = .ok (.aaload, 1) := by decide +kernel
theorem dX2_countTouched_71 : decode cX2_countTouched 71 = .ok (.iload 4, 2) := by decide +kernel
theorem dX2_countTouched_73 : decode cX2_countTouched 73 = .ok (.iaload, 1) := by decide +kernel
theorem dX2_countTouched_74 : decode cX2_countTouched 74 = .ok (.if_icmp .eq 7, 3) := by decide +kernel
theorem dX2_countTouched_77 : decode cX2_countTouched 77 = .ok (.iconst 1, 1) := by decide +kernel
theorem dX2_countTouched_78 : decode cX2_countTouched 78 = .ok (.goto 4, 3) := by decide +kernel
theorem dX2_countTouched_81 : decode cX2_countTouched 81 = .ok (.iconst 0, 1) := by decide +kernel
theorem dX2_countTouched_82 : decode cX2_countTouched 82 = .ok (.istore 6, 2) := by decide +kernel
end
section
theorem dX2_countTouched_84 : decode cX2_countTouched 84 = .ok (.iload_n 3, 1) := by decide +kernel
theorem dX2_countTouched_85 : decode cX2_countTouched 85 = .ok (.iload 5, 2) := by decide +kernel
theorem dX2_countTouched_87 : decode cX2_countTouched 87 = .ok (.ifCond .ne 8, 3) := by decide +kernel
theorem dX2_countTouched_90 : decode cX2_countTouched 90 = .ok (.iload 6, 2) := by decide +kernel
theorem dX2_countTouched_92 : decode cX2_countTouched 92 = .ok (.ifCond .eq 7, 3) := by decide +kernel
theorem dX2_countTouched_95 : decode cX2_countTouched 95 = .ok (.iconst 1, 1) := by decide +kernel
theorem dX2_countTouched_96 : decode cX2_countTouched 96 = .ok (.goto 4, 3) := by decide +kernel
theorem dX2_countTouched_99 : decode cX2_countTouched 99 = .ok (.iconst 0, 1) := by decide +kernel
theorem dX2_countTouched_100 : decode cX2_countTouched 100 = .ok (.invokestatic 74, 3) := by decide +kernel
theorem dX2_countTouched_103 : decode cX2_countTouched 103 = .ok (.iadd, 1) := by decide +kernel
theorem dX2_countTouched_104 : decode cX2_countTouched 104 = .ok (.istore_n 3, 1) := by decide +kernel
theorem dX2_countTouched_105 : decode cX2_countTouched 105 = .ok (.iinc 4 1, 3) := by decide +kernel
theorem dX2_countTouched_108 : decode cX2_countTouched 108 = .ok (.goto (-103), 3) := by decide +kernel
theorem dX2_countTouched_111 : decode cX2_countTouched 111 = .ok (.iload_n 3, 1) := by decide +kernel
theorem dX2_countTouched_112 : decode cX2_countTouched 112 = .ok (.ireturn, 1) := by decide +kernel
theorem dX3_init_0 : decode cX3_init 0 = .ok (.aload_n 0, 1) := by decide +kernel
theorem dX3_init_1 : decode cX3_init 1 = .ok (.invokespecial 3, 3) := by decide +kernel
theorem dX3_init_4 : decode cX3_init 4 = .ok (.aload_n 0, 1) := by decide +kernel
theorem dX3_init_5 : decode cX3_init 5 = .ok (.bipush 12, 2) := by decide +kernel
theorem dX3_init_7 : decode cX3_init 7 = .ok (.anewarray 9, 3) := by decide +kernel
theorem dX3_init_10 : decode cX3_init 10 = .ok (.putfield 11, 3) := by decide +kernel
theorem dX3_init_13 : decode cX3_init 13 = .ok (.return_, 1) := by decide +kernel
theorem dX3_has_0 : decode cX3_has 0 = .ok (.iload_n 1, 1) := by decide +kernel
theorem dX3_has_1 : decode cX3_has 1 = .ok (.ifCond .lt 15, 3) := by decide +kernel
theorem dX3_has_4 : decode cX3_has 4 = .ok (.iload_n 1, 1) := by decide +kernel
theorem dX3_has_5 : decode cX3_has 5 = .ok (.aload_n 0, 1) := by decide +kernel
theorem dX3_has_6 : decode cX3_has 6 = .ok (.getfield 17, 3) := by decide +kernel
theorem dX3_has_9 : decode cX3_has 9 = .ok (.if_icmp .ge 7, 3) := by decide +kernel
theorem dX3_has_12 : decode cX3_has 12 = .ok (.iconst 1, 1) := by decide +kernel
theorem dX3_has_13 : decode cX3_has 13 = .ok (.goto 4, 3) := by decide +kernel
theorem dX3_has_16 : decode cX3_has 16 = .ok (.iconst 0, 1) := by decide +kernel
theorem dX3_has_17 : decode cX3_has 17 = .ok (.ireturn, 1) := by decide +kernel
theorem dX3_add_0 : decode cX3_add 0 = .ok (.aload_n 0, 1) := by decide +kernel
theorem dX3_add_1 : decode cX3_add 1 = .ok (.getfield 11, 3) := by decide +kernel
theorem dX3_add_4 : decode cX3_add 4 = .ok (.aload_n 0, 1) := by decide +kernel
theorem dX3_add_5 : decode cX3_add 5 = .ok (.getfield 17, 3) := by decide +kernel
theorem dX3_add_8 : decode cX3_add 8 = .ok (.aload_n 1, 1) := by decide +kernel
theorem dX3_add_9 : decode cX3_add 9 = .ok (.aastore, 1) := by decide +kernel
theorem dX3_add_10 : decode cX3_add 10 = .ok (.aload_n 0, 1) := by decide +kernel
theorem dX3_add_11 : decode cX3_add 11 = .ok (.dup, 1) := by decide +kernel
theorem dX3_add_12 : decode cX3_add 12 = .ok (.getfield 17, 3) := by decide +kernel
theorem dX3_add_15 : decode cX3_add 15 = .ok (.iconst 1, 1) := by decide +kernel
theorem dX3_add_16 : decode cX3_add 16 = .ok (.iadd, 1) := by decide +kernel
theorem dX3_add_17 : decode cX3_add 17 = .ok (.putfield 17, 3) := by decide +kernel
theorem dX3_add_20 : decode cX3_add 20 = .ok (.aload_n 0, 1) := by decide +kernel
theorem dX3_add_21 : decode cX3_add 21 = .ok (.getfield 17, 3) := by decide +kernel
theorem dX3_add_24 : decode cX3_add 24 = .ok (.iconst 1, 1) := by decide +kernel
theorem dX3_add_25 : decode cX3_add 25 = .ok (.isub, 1) := by decide +kernel
theorem dX3_add_26 : decode cX3_add 26 = .ok (.ireturn, 1) := by decide +kernel
theorem dX4_init_0 : decode cX4_init 0 = .ok (.aload_n 0, 1) := by decide +kernel
theorem dX4_init_1 : decode cX4_init 1 = .ok (.invokespecial 3, 3) := by decide +kernel
theorem dX4_init_4 : decode cX4_init 4 = .ok (.aload_n 0, 1) := by decide +kernel
theorem dX4_init_5 : decode cX4_init 5 = .ok (.new 9, 3) := by decide +kernel
theorem dX4_init_8 : decode cX4_init 8 = .ok (.dup, 1) := by decide +kernel
theorem dX4_init_9 : decode cX4_init 9 = .ok (.invokespecial 11, 3) := by decide +kernel
theorem dX4_init_12 : decode cX4_init 12 = .ok (.putfield 12, 3) := by decide +kernel
theorem dX4_init_15 : decode cX4_init 15 = .ok (.aload_n 0, 1) := by decide +kernel
theorem dX4_init_16 : decode cX4_init 16 = .ok (.iconst 3, 1) := by decide +kernel
theorem dX4_init_17 : decode cX4_init 17 = .ok (.newarray .long, 2) := by decide +kernel
theorem dX4_init_19 : decode cX4_init 19 = .ok (.putfield 18, 3) := by decide +kernel
theorem dX4_init_22 : decode cX4_init 22 = .ok (.aload_n 0, 1) := by decide +kernel
theorem dX4_init_23 : decode cX4_init 23 = .ok (.getfield 12, 3) := by decide +kernel
theorem dX4_init_26 : decode cX4_init 26 = .ok (.aload_n 1, 1) := by decide +kernel
theorem dX4_init_27 : decode cX4_init 27 = .ok (.getfield 22, 3) := by decide +kernel
theorem dX4_init_30 : decode cX4_init 30 = .ok (.invokevirtual 27, 3) := by decide +kernel
theorem dX4_init_33 : decode cX4_init 33 = .ok (.iconst 0, 1) := by decide +kernel
theorem dX4_init_34 : decode cX4_init 34 = .ok (.istore_n 2, 1) := by decide +kernel
theorem dX4_init_35 : decode cX4_init 35 = .ok (.iload_n 2, 1) := by decide +kernel
theorem dX4_init_36 : decode cX4_init 36 = .ok (.iconst 3, 1) := by decide +kernel
theorem dX4_init_37 : decode cX4_init 37 = .ok (.if_icmp .ge 20, 3) := by decide +kernel
theorem dX4_init_40 : decode cX4_init 40 = .ok (.aload_n 0, 1) := by decide +kernel
theorem dX4_init_41 : decode cX4_init 41 = .ok (.getfield 18, 3) := by decide +kernel
theorem dX4_init_44 : decode cX4_init 44 = .ok (.iload_n 2, 1) := by decide +kernel
theorem dX4_init_45 : decode cX4_init 45 = .ok (.aload_n 1, 1) := by decide +kernel
theorem dX4_init_46 : decode cX4_init 46 = .ok (.iload_n 2, 1) := by decide +kernel
theorem dX4_init_47 : decode cX4_init 47 = .ok (.invokevirtual 31, 3) := by decide +kernel
theorem dX4_init_50 : decode cX4_init 50 = .ok (.lastore, 1) := by decide +kernel
theorem dX4_init_51 : decode cX4_init 51 = .ok (.iinc 2 1, 3) := by decide +kernel
theorem dX4_init_54 : decode cX4_init 54 = .ok (.goto (-19), 3) := by decide +kernel
theorem dX4_init_57 : decode cX4_init 57 = .ok (.return_, 1) := by decide +kernel
theorem dX5_init_0 : decode cX5_init 0 = .ok (.aload_n 0, 1) := by decide +kernel
theorem dX5_init_1 : decode cX5_init 1 = .ok (.invokespecial 3, 3) := by decide +kernel
theorem dX5_init_4 : decode cX5_init 4 = .ok (.aload_n 0, 1) := by decide +kernel
theorem dX5_init_5 : decode cX5_init 5 = .ok (.iconst 4, 1) := by decide +kernel
theorem dX5_init_6 : decode cX5_init 6 = .ok (.bipush 40, 2) := by decide +kernel
theorem dX5_init_8 : decode cX5_init 8 = .ok (.multianewarray 9 2, 4) := by decide +kernel
theorem dX5_init_12 : decode cX5_init 12 = .ok (.putfield 11, 3) := by decide +kernel
theorem dX5_init_15 : decode cX5_init 15 = .ok (.return_, 1) := by decide +kernel
theorem dX5_has_0 : decode cX5_has 0 = .ok (.iload_n 1, 1) := by decide +kernel
theorem dX5_has_1 : decode cX5_has 1 = .ok (.ifCond .lt 15, 3) := by decide +kernel
theorem dX5_has_4 : decode cX5_has 4 = .ok (.iload_n 1, 1) := by decide +kernel
theorem dX5_has_5 : decode cX5_has 5 = .ok (.aload_n 0, 1) := by decide +kernel
theorem dX5_has_6 : decode cX5_has 6 = .ok (.getfield 16, 3) := by decide +kernel
theorem dX5_has_9 : decode cX5_has 9 = .ok (.if_icmp .ge 7, 3) := by decide +kernel
theorem dX5_has_12 : decode cX5_has 12 = .ok (.iconst 1, 1) := by decide +kernel
theorem dX5_has_13 : decode cX5_has 13 = .ok (.goto 4, 3) := by decide +kernel
theorem dX5_has_16 : decode cX5_has 16 = .ok (.iconst 0, 1) := by decide +kernel
theorem dX5_has_17 : decode cX5_has 17 = .ok (.ireturn, 1) := by decide +kernel
theorem dX5_read_0 : decode cX5_read 0 = .ok (.aload_n 0, 1) := by decide +kernel
theorem dX5_read_1 : decode cX5_read 1 = .ok (.iload_n 1, 1) := by decide +kernel
theorem dX5_read_2 : decode cX5_read 2 = .ok (.invokevirtual 20, 3) := by decide +kernel
theorem dX5_read_5 : decode cX5_read 5 = .ok (.ifCond .eq 23, 3) := by decide +kernel
theorem dX5_read_8 : decode cX5_read 8 = .ok (.iload_n 2, 1) := by decide +kernel
theorem dX5_read_9 : decode cX5_read 9 = .ok (.iconst 0, 1) := by decide +kernel
theorem dX5_read_10 : decode cX5_read 10 = .ok (.iconst 3, 1) := by decide +kernel
theorem dX5_read_11 : decode cX5_read 11 = .ok (.invokestatic 24, 3) := by decide +kernel
theorem dX5_read_14 : decode cX5_read 14 = .ok (.ifCond .eq 14, 3) := by decide +kernel
theorem dX5_read_17 : decode cX5_read 17 = .ok (.aload_n 0, 1) := by decide +kernel
theorem dX5_read_18 : decode cX5_read 18 = .ok (.getfield 11, 3) := by decide +kernel
theorem dX5_read_21 : decode cX5_read 21 = .ok (.iload_n 2, 1) := by decide +kernel
theorem dX5_read_22 : decode cX5_read 22 = .ok (.aaload, 1) := by decide +kernel
theorem dX5_read_23 : decode cX5_read 23 = .ok (.iload_n 1, 1) := by decide +kernel
theorem dX5_read_24 : decode cX5_read 24 = .ok (.iaload, 1) := by decide +kernel
theorem dX5_read_25 : decode cX5_read 25 = .ok (.goto 5, 3) := by decide +kernel
theorem dX5_read_28 : decode cX5_read 28 = .ok (.ldc 28, 2) := by decide +kernel
theorem dX5_read_30 : decode cX5_read 30 = .ok (.ireturn, 1) := by decide +kernel
theorem dX5_addObject_0 : decode cX5_addObject 0 = .ok (.aload_n 0, 1) := by decide +kernel
theorem dX5_addObject_1 : decode cX5_addObject 1 = .ok (.getfield 11, 3) := by decide +kernel
theorem dX5_addObject_4 : decode cX5_addObject 4 = .ok (.iconst 2, 1) := by decide +kernel
theorem dX5_addObject_5 : decode cX5_addObject 5 = .ok (.aaload, 1) := by decide +kernel
theorem dX5_addObject_6 : decode cX5_addObject 6 = .ok (.aload_n 0, 1) := by decide +kernel
theorem dX5_addObject_7 : decode cX5_addObject 7 = .ok (.getfield 16, 3) := by decide +kernel
theorem dX5_addObject_10 : decode cX5_addObject 10 = .ok (.iconst (-1), 1) := by decide +kernel
theorem dX5_addObject_11 : decode cX5_addObject 11 = .ok (.iastore, 1) := by decide +kernel
theorem dX5_addObject_12 : decode cX5_addObject 12 = .ok (.aload_n 0, 1) := by decide +kernel
theorem dX5_addObject_13 : decode cX5_addObject 13 = .ok (.dup, 1) := by decide +kernel
theorem dX5_addObject_14 : decode cX5_addObject 14 = .ok (.getfield 16, 3) := by decide +kernel
theorem dX5_addObject_17 : decode cX5_addObject 17 = .ok (.iconst 1, 1) := by decide +kernel
theorem dX5_addObject_18 : decode cX5_addObject 18 = .ok (.iadd, 1) := by decide +kernel
theorem dX5_addObject_19 : decode cX5_addObject 19 = .ok (.putfield 16, 3) := by decide +kernel
theorem dX5_addObject_22 : decode cX5_addObject 22 = .ok (.return_, 1) := by decide +kernel
theorem dX5_becomeLike_0 : decode cX5_becomeLike 0 = .ok (.aload_n 0, 1) := by decide +kernel
theorem dX5_becomeLike_1 : decode cX5_becomeLike 1 = .ok (.aload_n 1, 1) := by decide +kernel
theorem dX5_becomeLike_2 : decode cX5_becomeLike 2 = .ok (.getfield 16, 3) := by decide +kernel
theorem dX5_becomeLike_5 : decode cX5_becomeLike 5 = .ok (.putfield 16, 3) := by decide +kernel
theorem dX5_becomeLike_8 : decode cX5_becomeLike 8 = .ok (.iconst 0, 1) := by decide +kernel
theorem dX5_becomeLike_9 : decode cX5_becomeLike 9 = .ok (.istore_n 2, 1) := by decide +kernel
theorem dX5_becomeLike_10 : decode cX5_becomeLike 10 = .ok (.iload_n 2, 1) := by decide +kernel
theorem dX5_becomeLike_11 : decode cX5_becomeLike 11 = .ok (.iconst 4, 1) := by decide +kernel
theorem dX5_becomeLike_12 : decode cX5_becomeLike 12 = .ok (.if_icmp .ge 30, 3) := by decide +kernel
theorem dX5_becomeLike_15 : decode cX5_becomeLike 15 = .ok (.aload_n 1, 1) := by decide +kernel
theorem dX5_becomeLike_16 : decode cX5_becomeLike 16 = .ok (.getfield 11, 3) := by decide +kernel
theorem dX5_becomeLike_19 : decode cX5_becomeLike 19 = .ok (.iload_n 2, 1) := by decide +kernel
theorem dX5_becomeLike_20 : decode cX5_becomeLike 20 = .ok (.aaload, 1) := by decide +kernel
theorem dX5_becomeLike_21 : decode cX5_becomeLike 21 = .ok (.iconst 0, 1) := by decide +kernel
theorem dX5_becomeLike_22 : decode cX5_becomeLike 22 = .ok (.aload_n 0, 1) := by decide +kernel
theorem dX5_becomeLike_23 : decode cX5_becomeLike 23 = .ok (.getfield 11, 3) := by decide +kernel
theorem dX5_becomeLike_26 : decode cX5_becomeLike 26 = .ok (.iload_n 2, 1) := by decide +kernel
theorem dX5_becomeLike_27 : decode cX5_becomeLike 27 = .ok (.aaload, 1) := by decide +kernel
theorem dX5_becomeLike_28 : decode cX5_becomeLike 28 = .ok (.iconst 0, 1) := by decide +kernel
theorem dX5_becomeLike_29 : decode cX5_becomeLike 29 = .ok (.aload_n 0, 1) := by decide +kernel
theorem dX5_becomeLike_30 : decode cX5_becomeLike 30 = .ok (.getfield 16, 3) := by decide +kernel
theorem dX5_becomeLike_33 : decode cX5_becomeLike 33 = .ok (.invokestatic 29, 3) := by decide +kernel
theorem dX5_becomeLike_36 : decode cX5_becomeLike 36 = .ok (.iinc 2 1, 3) := by decide +kernel
theorem dX5_becomeLike_39 : decode cX5_becomeLike 39 = .ok (.goto (-29), 3) := by decide +kernel
theorem dX5_becomeLike_42 : decode cX5_becomeLike 42 = .ok (.return_, 1) := by decide +kernel
theorem dX5_takes_0 : decode cX5_takes 0 = .ok (.aload_n 0, 1) := by decide +kernel
theorem dX5_takes_1 : decode cX5_takes 1 = .ok (.iload_n 1, 1) := by decide +kernel
theorem dX5_takes_2 : decode cX5_takes 2 = .ok (.invokevirtual 20, 3) := by decide +kernel
theorem dX5_takes_5 : decode cX5_takes 5 = .ok (.ifCond .ne 5, 3) := by decide +kernel
theorem dX5_takes_8 : decode cX5_takes 8 = .ok (.iconst 0, 1) := by decide +kernel
theorem dX5_takes_9 : decode cX5_takes 9 = .ok (.ireturn, 1) := by decide +kernel
theorem dX5_takes_10 : decode cX5_takes 10 = .ok (.iload_n 2, 1) := by decide +kernel
theorem dX5_takes_11 : decode cX5_takes 11 = .ok (.tableswitch 72 0 2 #[25, 36, 44], 25) := by decide +kernel
theorem dX5_takes_36 : decode cX5_takes 36 = .ok (.iload_n 3, 1) := by decide +kernel
theorem dX5_takes_37 : decode cX5_takes 37 = .ok (.sipush (-1000), 3) := by decide +kernel
theorem dX5_takes_40 : decode cX5_takes 40 = .ok (.sipush 1000, 3) := by decide +kernel
theorem dX5_takes_43 : decode cX5_takes 43 = .ok (.invokestatic 24, 3) := by decide +kernel
theorem dX5_takes_46 : decode cX5_takes 46 = .ok (.ireturn, 1) := by decide +kernel
theorem dX5_takes_47 : decode cX5_takes 47 = .ok (.iload_n 3, 1) := by decide +kernel
theorem dX5_takes_48 : decode cX5_takes 48 = .ok (.iconst 0, 1) := by decide +kernel
theorem dX5_takes_49 : decode cX5_takes 49 = .ok (.bipush 20, 2) := by decide +kernel
theorem dX5_takes_51 : decode cX5_takes 51 = .ok (.invokestatic 24, 3) := by decide +kernel
theorem dX5_takes_54 : decode cX5_takes 54 = .ok (.ireturn, 1) := by decide +kernel
theorem dX5_takes_55 : decode cX5_takes 55 = .ok (.iload_n 3, 1) := by decide +kernel
theorem dX5_takes_56 : decode cX5_takes 56 = .ok (.iconst (-1), 1) := by decide +kernel
theorem dX5_takes_57 : decode cX5_takes 57 = .ok (.if_icmp .eq 20, 3) := by decide +kernel
theorem dX5_takes_60 : decode cX5_takes 60 = .ok (.aload_n 0, 1) := by decide +kernel
theorem dX5_takes_61 : decode cX5_takes 61 = .ok (.iload_n 3, 1) := by decide +kernel
theorem dX5_takes_62 : decode cX5_takes 62 = .ok (.invokevirtual 20, 3) := by decide +kernel
theorem dX5_takes_65 : decode cX5_takes 65 = .ok (.ifCond .eq 16, 3) := by decide +kernel
theorem dX5_takes_68 : decode cX5_takes 68 = .ok (.aload_n 0, 1) := by decide +kernel
theorem dX5_takes_69 : decode cX5_takes 69 = .ok (.iload_n 3, 1) := by decide +kernel
theorem dX5_takes_70 : decode cX5_takes 70 = .ok (.iload_n 1, 1) := by decide +kernel
theorem dX5_takes_71 : decode cX5_takes 71 = .ok (.invokevirtual 35, 3) := by decide +kernel
theorem dX5_takes_74 : decode cX5_takes 74 = .ok (.ifCond .ne 7, 3) := by decide +kernel
theorem dX5_takes_77 : decode cX5_takes 77 = .ok (.iconst 1, 1) := by decide +kernel
theorem dX5_takes_78 : decode cX5_takes 78 = .ok (.goto 4, 3) := by decide +kernel
theorem dX5_takes_81 : decode cX5_takes 81 = .ok (.iconst 0, 1) := by decide +kernel
theorem dX5_takes_82 : decode cX5_takes 82 = .ok (.ireturn, 1) := by decide +kernel
theorem dX5_takes_83 : decode cX5_takes 83 = .ok (.iconst 0, 1) := by decide +kernel
theorem dX5_takes_84 : decode cX5_takes 84 = .ok (.ireturn, 1) := by decide +kernel
theorem dX5_leads_0 : decode cX5_leads 0 = .ok (.iload_n 1, 1) := by decide +kernel
theorem dX5_leads_1 : decode cX5_leads 1 = .ok (.istore_n 3, 1) := by decide +kernel
theorem dX5_leads_2 : decode cX5_leads 2 = .ok (.iconst 0, 1) := by decide +kernel
theorem dX5_leads_3 : decode cX5_leads 3 = .ok (.istore 4, 2) := by decide +kernel
theorem dX5_leads_5 : decode cX5_leads 5 = .ok (.iload 4, 2) := by decide +kernel
theorem dX5_leads_7 : decode cX5_leads 7 = .ok (.aload_n 0, 1) := by decide +kernel
theorem dX5_leads_8 : decode cX5_leads 8 = .ok (.getfield 16, 3) := by decide +kernel
theorem dX5_leads_11 : decode cX5_leads 11 = .ok (.if_icmp .ge 33, 3) := by decide +kernel
theorem dX5_leads_14 : decode cX5_leads 14 = .ok (.aload_n 0, 1) := by decide +kernel
theorem dX5_leads_15 : decode cX5_leads 15 = .ok (.iload_n 3, 1) := by decide +kernel
theorem dX5_leads_16 : decode cX5_leads 16 = .ok (.invokevirtual 20, 3) := by decide +kernel
theorem dX5_leads_19 : decode cX5_leads 19 = .ok (.ifCond .eq 25, 3) := by decide +kernel
theorem dX5_leads_22 : decode cX5_leads 22 = .ok (.iload_n 3, 1) := by decide +kernel
theorem dX5_leads_23 : decode cX5_leads 23 = .ok (.iload_n 2, 1) := by decide +kernel
theorem dX5_leads_24 : decode cX5_leads 24 = .ok (.if_icmp .ne 5, 3) := by decide +kernel
theorem dX5_leads_27 : decode cX5_leads 27 = .ok (.iconst 1, 1) := by decide +kernel
theorem dX5_leads_28 : decode cX5_leads 28 = .ok (.ireturn, 1) := by decide +kernel
theorem dX5_leads_29 : decode cX5_leads 29 = .ok (.aload_n 0, 1) := by decide +kernel
theorem dX5_leads_30 : decode cX5_leads 30 = .ok (.getfield 11, 3) := by decide +kernel
theorem dX5_leads_33 : decode cX5_leads 33 = .ok (.iconst 2, 1) := by decide +kernel
theorem dX5_leads_34 : decode cX5_leads 34 = .ok (.aaload, 1) := by decide +kernel
theorem dX5_leads_35 : decode cX5_leads 35 = .ok (.iload_n 3, 1) := by decide +kernel
theorem dX5_leads_36 : decode cX5_leads 36 = .ok (.iaload, 1) := by decide +kernel
theorem dX5_leads_37 : decode cX5_leads 37 = .ok (.istore_n 3, 1) := by decide +kernel
theorem dX5_leads_38 : decode cX5_leads 38 = .ok (.iinc 4 1, 3) := by decide +kernel
theorem dX5_leads_41 : decode cX5_leads 41 = .ok (.goto (-36), 3) := by decide +kernel
theorem dX5_leads_44 : decode cX5_leads 44 = .ok (.iconst 0, 1) := by decide +kernel
theorem dX5_leads_45 : decode cX5_leads 45 = .ok (.ireturn, 1) := by decide +kernel
theorem dX5_put_0 : decode cX5_put 0 = .ok (.aload_n 0, 1) := by decide +kernel
theorem dX5_put_1 : decode cX5_put 1 = .ok (.getfield 11, 3) := by decide +kernel
theorem dX5_put_4 : decode cX5_put 4 = .ok (.iload_n 2, 1) := by decide +kernel
theorem dX5_put_5 : decode cX5_put 5 = .ok (.aaload, 1) := by decide +kernel
theorem dX5_put_6 : decode cX5_put 6 = .ok (.iload_n 1, 1) := by decide +kernel
theorem dX5_put_7 : decode cX5_put 7 = .ok (.iload_n 3, 1) := by decide +kernel
theorem dX5_put_8 : decode cX5_put 8 = .ok (.iastore, 1) := by decide +kernel
theorem dX5_put_9 : decode cX5_put 9 = .ok (.aload_n 0, 1) := by decide +kernel
theorem dX5_put_10 : decode cX5_put 10 = .ok (.getfield 11, 3) := by decide +kernel
theorem dX5_put_13 : decode cX5_put 13 = .ok (.iconst 2, 1) := by decide +kernel
theorem dX5_put_14 : decode cX5_put 14 = .ok (.aaload, 1) := by decide +kernel
theorem dX5_put_15 : decode cX5_put 15 = .ok (.iload_n 1, 1) := by decide +kernel
theorem dX5_put_16 : decode cX5_put 16 = .ok (.iaload, 1) := by decide +kernel
theorem dX5_put_17 : decode cX5_put 17 = .ok (.istore 4, 2) := by decide +kernel
theorem dX5_put_19 : decode cX5_put 19 = .ok (.aload_n 0, 1) := by decide +kernel
theorem dX5_put_20 : decode cX5_put 20 = .ok (.getfield 11, 3) := by decide +kernel
theorem dX5_put_23 : decode cX5_put 23 = .ok (.iconst 0, 1) := by decide +kernel
theorem dX5_put_24 : decode cX5_put 24 = .ok (.aaload, 1) := by decide +kernel
theorem dX5_put_25 : decode cX5_put 25 = .ok (.iload_n 1, 1) := by decide +kernel
theorem dX5_put_26 : decode cX5_put 26 = .ok (.iaload, 1) := by decide +kernel
theorem dX5_put_27 : decode cX5_put 27 = .ok (.aload_n 0, 1) := by decide +kernel
theorem dX5_put_28 : decode cX5_put 28 = .ok (.iload 4, 2) := by decide +kernel
theorem dX5_put_30 : decode cX5_put 30 = .ok (.invokevirtual 20, 3) := by decide +kernel
theorem dX5_put_33 : decode cX5_put 33 = .ok (.ifCond .eq 15, 3) := by decide +kernel
theorem dX5_put_36 : decode cX5_put 36 = .ok (.aload_n 0, 1) := by decide +kernel
theorem dX5_put_37 : decode cX5_put 37 = .ok (.getfield 11, 3) := by decide +kernel
theorem dX5_put_40 : decode cX5_put 40 = .ok (.iconst 3, 1) := by decide +kernel
theorem dX5_put_41 : decode cX5_put 41 = .ok (.aaload, 1) := by decide +kernel
theorem dX5_put_42 : decode cX5_put 42 = .ok (.iload 4, 2) := by decide +kernel
theorem dX5_put_44 : decode cX5_put 44 = .ok (.iaload, 1) := by decide +kernel
theorem dX5_put_45 : decode cX5_put 45 = .ok (.goto 4, 3) := by decide +kernel
theorem dX5_put_48 : decode cX5_put 48 = .ok (.iconst 0, 1) := by decide +kernel
theorem dX5_put_49 : decode cX5_put 49 = .ok (.iadd, 1) := by decide +kernel
theorem dX5_put_50 : decode cX5_put 50 = .ok (.istore 5, 2) := by decide +kernel
theorem dX5_put_52 : decode cX5_put 52 = .ok (.iload 5, 2) := by decide +kernel
theorem dX5_put_54 : decode cX5_put 54 = .ok (.aload_n 0, 1) := by decide +kernel
theorem dX5_put_55 : decode cX5_put 55 = .ok (.getfield 11, 3) := by decide +kernel
theorem dX5_put_58 : decode cX5_put 58 = .ok (.iconst 3, 1) := by decide +kernel
theorem dX5_put_59 : decode cX5_put 59 = .ok (.aaload, 1) := by decide +kernel
theorem dX5_put_60 : decode cX5_put 60 = .ok (.iload_n 1, 1) := by decide +kernel
theorem dX5_put_61 : decode cX5_put 61 = .ok (.iaload, 1) := by decide +kernel
theorem dX5_put_62 : decode cX5_put 62 = .ok (.isub, 1) := by decide +kernel
theorem dX5_put_63 : decode cX5_put 63 = .ok (.istore 6, 2) := by decide +kernel
theorem dX5_put_65 : decode cX5_put 65 = .ok (.iconst 0, 1) := by decide +kernel
theorem dX5_put_66 : decode cX5_put 66 = .ok (.istore 7, 2) := by decide +kernel
theorem dX5_put_68 : decode cX5_put 68 = .ok (.iload 7, 2) := by decide +kernel
theorem dX5_put_70 : decode cX5_put 70 = .ok (.aload_n 0, 1) := by decide +kernel
theorem dX5_put_71 : decode cX5_put 71 = .ok (.getfield 16, 3) := by decide +kernel
theorem dX5_put_74 : decode cX5_put 74 = .ok (.if_icmp .ge 38, 3) := by decide +kernel
theorem dX5_put_77 : decode cX5_put 77 = .ok (.iload 6, 2) := by decide +kernel
theorem dX5_put_79 : decode cX5_put 79 = .ok (.ifCond .eq 33, 3) := by decide +kernel
theorem dX5_put_82 : decode cX5_put 82 = .ok (.aload_n 0, 1) := by decide +kernel
theorem dX5_put_83 : decode cX5_put 83 = .ok (.iload 7, 2) := by decide +kernel
theorem dX5_put_85 : decode cX5_put 85 = .ok (.iload_n 1, 1) := by decide +kernel
theorem dX5_put_86 : decode cX5_put 86 = .ok (.invokevirtual 35, 3) := by decide +kernel
theorem dX5_put_89 : decode cX5_put 89 = .ok (.ifCond .eq 17, 3) := by decide +kernel
theorem dX5_put_92 : decode cX5_put 92 = .ok (.aload_n 0, 1) := by decide +kernel
theorem dX5_put_93 : decode cX5_put 93 = .ok (.getfield 11, 3) := by decide +kernel
theorem dX5_put_96 : decode cX5_put 96 = .ok (.iconst 3, 1) := by decide +kernel
theorem dX5_put_97 : decode cX5_put 97 = .ok (.aaload, 1) := by decide +kernel
theorem dX5_put_98 : decode cX5_put 98 = .ok (.iload 7, 2) := by decide +kernel
theorem dX5_put_100 : decode cX5_put 100 = .ok (.dup2, 1) := by decide +kernel
theorem dX5_put_101 : decode cX5_put 101 = .ok (.iaload, 1) := by decide +kernel
theorem dX5_put_102 : decode cX5_put 102 = .ok (.iload 6, 2) := by decide +kernel
theorem dX5_put_104 : decode cX5_put 104 = .ok (.iadd, 1) := by decide +kernel
theorem dX5_put_105 : decode cX5_put 105 = .ok (.iastore, 1) := by decide +kernel
theorem dX5_put_106 : decode cX5_put 106 = .ok (.iinc 7 1, 3) := by decide +kernel
theorem dX5_put_109 : decode cX5_put 109 = .ok (.goto (-41), 3) := by decide +kernel
theorem dX5_put_112 : decode cX5_put 112 = .ok (.return_, 1) := by decide +kernel
theorem dX5_countOther_0 : decode cX5_countOther 0 = .ok (.iconst 0, 1) := by decide +kernel
theorem dX5_countOther_1 : decode cX5_countOther 1 = .ok (.istore_n 2, 1) := by decide +kernel
theorem dX5_countOther_2 : decode cX5_countOther 2 = .ok (.iconst 0, 1) := by decide +kernel
theorem dX5_countOther_3 : decode cX5_countOther 3 = .ok (.istore_n 3, 1) := by decide +kernel
theorem dX5_countOther_4 : decode cX5_countOther 4 = .ok (.iload_n 3, 1) := by decide +kernel
theorem dX5_countOther_5 : decode cX5_countOther 5 = .ok (.iconst 4, 1) := by decide +kernel
theorem dX5_countOther_6 : decode cX5_countOther 6 = .ok (.if_icmp .ge 59, 3) := by decide +kernel
theorem dX5_countOther_9 : decode cX5_countOther 9 = .ok (.iconst 0, 1) := by decide +kernel
theorem dX5_countOther_10 : decode cX5_countOther 10 = .ok (.istore 4, 2) := by decide +kernel
theorem dX5_countOther_12 : decode cX5_countOther 12 = .ok (.iload 4, 2) := by decide +kernel
theorem dX5_countOther_14 : decode cX5_countOther 14 = .ok (.aload_n 0, 1) := by decide +kernel
theorem dX5_countOther_15 : decode cX5_countOther 15 = .ok (.getfield 16, 3) := by decide +kernel
theorem dX5_countOther_18 : decode cX5_countOther 18 = .ok (.if_icmp .ge 41, 3) := by decide +kernel
theorem dX5_countOther_21 : decode cX5_countOther 21 = .ok (.iload_n 2, 1) := by decide +kernel
theorem dX5_countOther_22 : decode cX5_countOther 22 = .ok (.aload_n 0, 1) := by decide +kernel
theorem dX5_countOther_23 : decode cX5_countOther 23 = .ok (.getfield 11, 3) := by decide +kernel
theorem dX5_countOther_26 : decode cX5_countOther 26 = .ok (.iload_n 3, 1) := by decide +kernel
theorem dX5_countOther_27 : decode cX5_countOther 27 = .ok (.aaload, 1) := by decide +kernel
theorem dX5_countOther_28 : decode cX5_countOther 28 = .ok (.iload 4, 2) := by decide +kernel
theorem dX5_countOther_30 : decode cX5_countOther 30 = .ok (.iaload, 1) := by decide +kernel
theorem dX5_countOther_31 : decode cX5_countOther 31 = .ok (.aload_n 1, 1) := by decide +kernel
theorem dX5_countOther_32 : decode cX5_countOther 32 = .ok (.getfield 11, 3) := by decide +kernel
theorem dX5_countOther_35 : decode cX5_countOther 35 = .ok (.iload_n 3, 1) := by decide +kernel
theorem dX5_countOther_36 : decode cX5_countOther 36 = .ok (.aaload, 1) := by decide +kernel
theorem dX5_countOther_37 : decode cX5_countOther 37 = .ok (.iload 4, 2) := by decide +kernel
theorem dX5_countOther_39 : decode cX5_countOther 39 = .ok (.iaload, 1) := by decide +kernel
theorem dX5_countOther_40 : decode cX5_countOther 40 = .ok (.if_icmp .eq 7, 3) := by decide +kernel
theorem dX5_countOther_43 : decode cX5_countOther 43 = .ok (.iconst 1, 1) := by decide +kernel
theorem dX5_countOther_44 : decode cX5_countOther 44 = .ok (.goto 4, 3) := by decide +kernel
theorem dX5_countOther_47 : decode cX5_countOther 47 = .ok (.iconst 0, 1) := by decide +kernel
theorem dX5_countOther_48 : decode cX5_countOther 48 = .ok (.invokestatic 39, 3) := by decide +kernel
theorem dX5_countOther_51 : decode cX5_countOther 51 = .ok (.iadd, 1) := by decide +kernel
theorem dX5_countOther_52 : decode cX5_countOther 52 = .ok (.istore_n 2, 1) := by decide +kernel
theorem dX5_countOther_53 : decode cX5_countOther 53 = .ok (.iinc 4 1, 3) := by decide +kernel
theorem dX5_countOther_56 : decode cX5_countOther 56 = .ok (.goto (-44), 3) := by decide +kernel
theorem dX5_countOther_59 : decode cX5_countOther 59 = .ok (.iinc 3 1, 3) := by decide +kernel
theorem dX5_countOther_62 : decode cX5_countOther 62 = .ok (.goto (-58), 3) := by decide +kernel
theorem dX5_countOther_65 : decode cX5_countOther 65 = .ok (.iload_n 2, 1) := by decide +kernel
theorem dX5_countOther_66 : decode cX5_countOther 66 = .ok (.ireturn, 1) := by decide +kernel
theorem dX6_init_0 : decode cX6_init 0 = .ok (.aload_n 0, 1) := by decide +kernel
theorem dX6_init_1 : decode cX6_init 1 = .ok (.invokespecial 1, 3) := by decide +kernel
theorem dX6_init_4 : decode cX6_init 4 = .ok (.new 7, 3) := by decide +kernel
theorem dX6_init_7 : decode cX6_init 7 = .ok (.dup, 1) := by decide +kernel
theorem dX6_init_8 : decode cX6_init 8 = .ok (.invokespecial 9, 3) := by decide +kernel
theorem dX6_init_11 : decode cX6_init 11 = .ok (.astore_n 1, 1) := by decide +kernel
theorem dX6_init_12 : decode cX6_init 12 = .ok (.aload_n 0, 1) := by decide +kernel
theorem dX6_init_13 : decode cX6_init 13 = .ok (.aload_n 1, 1) := by decide +kernel
theorem dX6_init_14 : decode cX6_init 14 = .ok (.putfield 10, 3) := by decide +kernel
theorem dX6_init_17 : decode cX6_init 17 = .ok (.aload_n 0, 1) := by decide +kernel
theorem dX6_init_18 : decode cX6_init 18 = .ok (.iconst 4, 1) := by decide +kernel
theorem dX6_init_19 : decode cX6_init 19 = .ok (.anewarray 16, 3) := by decide +kernel
theorem dX6_init_22 : decode cX6_init 22 = .ok (.putfield 18, 3) := by decide +kernel
theorem dX6_init_25 : decode cX6_init 25 = .ok (.aload_n 0, 1) := by decide +kernel
theorem dX6_init_26 : decode cX6_init 26 = .ok (.getfield 18, 3) := by decide +kernel
theorem dX6_init_29 : decode cX6_init 29 = .ok (.iconst 0, 1) := by decide +kernel
theorem dX6_init_30 : decode cX6_init 30 = .ok (.new 16, 3) := by decide +kernel
theorem dX6_init_33 : decode cX6_init 33 = .ok (.dup, 1) := by decide +kernel
theorem dX6_init_34 : decode cX6_init 34 = .ok (.aload_n 1, 1) := by decide +kernel
theorem dX6_init_35 : decode cX6_init 35 = .ok (.invokespecial 22, 3) := by decide +kernel
theorem dX6_init_38 : decode cX6_init 38 = .ok (.aastore, 1) := by decide +kernel
theorem dX6_init_39 : decode cX6_init 39 = .ok (.aload_n 0, 1) := by decide +kernel
theorem dX6_init_40 : decode cX6_init 40 = .ok (.iconst 1, 1) := by decide +kernel
theorem dX6_init_41 : decode cX6_init 41 = .ok (.putfield 25, 3) := by decide +kernel
theorem dX6_init_44 : decode cX6_init 44 = .ok (.aload_n 0, 1) := by decide +kernel
theorem dX6_init_45 : decode cX6_init 45 = .ok (.bipush 20, 2) := by decide +kernel
theorem dX6_init_47 : decode cX6_init 47 = .ok (.anewarray 29, 3) := by decide +kernel
theorem dX6_init_50 : decode cX6_init 50 = .ok (.putfield 31, 3) := by decide +kernel
theorem dX6_init_53 : decode cX6_init 53 = .ok (.return_, 1) := by decide +kernel
theorem dX6_object_0 : decode cX6_object 0 = .ok (.aload_n 0, 1) := by decide +kernel
theorem dX6_object_1 : decode cX6_object 1 = .ok (.invokevirtual 35, 3) := by decide +kernel
theorem dX6_object_4 : decode cX6_object 4 = .ok (.ifCond .eq 6, 3) := by decide +kernel
theorem dX6_object_7 : decode cX6_object 7 = .ok (.bipush (-3), 2) := by decide +kernel
theorem dX6_object_9 : decode cX6_object 9 = .ok (.ireturn, 1) := by decide +kernel
theorem dX6_object_10 : decode cX6_object 10 = .ok (.aload_n 0, 1) := by decide +kernel
theorem dX6_object_11 : decode cX6_object 11 = .ok (.getfield 18, 3) := by decide +kernel
theorem dX6_object_14 : decode cX6_object 14 = .ok (.iconst 0, 1) := by decide +kernel
theorem dX6_object_15 : decode cX6_object 15 = .ok (.aaload, 1) := by decide +kernel
theorem dX6_object_16 : decode cX6_object 16 = .ok (.getfield 39, 3) := by decide +kernel
theorem dX6_object_19 : decode cX6_object 19 = .ok (.getfield 43, 3) := by decide +kernel
theorem dX6_object_22 : decode cX6_object 22 = .ok (.bipush 40, 2) := by decide +kernel
theorem dX6_object_24 : decode cX6_object 24 = .ok (.if_icmp .lt 8, 3) := by decide +kernel
theorem dX6_object_27 : decode cX6_object 27 = .ok (.bipush (-4), 2) := by decide +kernel
theorem dX6_object_29 : decode cX6_object 29 = .ok (.goto 12, 3) := by decide +kernel
theorem dX6_object_32 : decode cX6_object 32 = .ok (.aload_n 0, 1) := by decide +kernel
theorem dX6_object_33 : decode cX6_object 33 = .ok (.getfield 18, 3) := by decide +kernel
theorem dX6_object_36 : decode cX6_object 36 = .ok (.iconst 0, 1) := by decide +kernel
theorem dX6_object_37 : decode cX6_object 37 = .ok (.aaload, 1) := by decide +kernel
theorem dX6_object_38 : decode cX6_object 38 = .ok (.invokevirtual 48, 3) := by decide +kernel
theorem dX6_object_41 : decode cX6_object 41 = .ok (.ireturn, 1) := by decide +kernel
theorem dX6_rule_0 : decode cX6_rule 0 = .ok (.iload_n 1, 1) := by decide +kernel
theorem dX6_rule_1 : decode cX6_rule 1 = .ok (.iload_n 2, 1) := by decide +kernel
theorem dX6_rule_2 : decode cX6_rule 2 = .ok (.iload_n 3, 1) := by decide +kernel
theorem dX6_rule_3 : decode cX6_rule 3 = .ok (.iload 4, 2) := by decide +kernel
theorem dX6_rule_5 : decode cX6_rule 5 = .ok (.iload 5, 2) := by decide +kernel
theorem dX6_rule_7 : decode cX6_rule 7 = .ok (.invokestatic 52, 3) := by decide +kernel
theorem dX6_rule_10 : decode cX6_rule 10 = .ok (.ifCond .ne 5, 3) := by decide +kernel
theorem dX6_rule_13 : decode cX6_rule 13 = .ok (.iconst (-1), 1) := by decide +kernel
theorem dX6_rule_14 : decode cX6_rule 14 = .ok (.ireturn, 1) := by decide +kernel
theorem dX6_rule_15 : decode cX6_rule 15 = .ok (.aload_n 0, 1) := by decide +kernel
theorem dX6_rule_16 : decode cX6_rule 16 = .ok (.invokevirtual 35, 3) := by decide +kernel
theorem dX6_rule_19 : decode cX6_rule 19 = .ok (.ifCond .eq 6, 3) := by decide +kernel
theorem dX6_rule_22 : decode cX6_rule 22 = .ok (.bipush (-3), 2) := by decide +kernel
theorem dX6_rule_24 : decode cX6_rule 24 = .ok (.ireturn, 1) := by decide +kernel
theorem dX6_rule_25 : decode cX6_rule 25 = .ok (.aload_n 0, 1) := by decide +kernel
theorem dX6_rule_26 : decode cX6_rule 26 = .ok (.getfield 10, 3) := by decide +kernel
theorem dX6_rule_29 : decode cX6_rule 29 = .ok (.getfield 56, 3) := by decide +kernel
theorem dX6_rule_32 : decode cX6_rule 32 = .ok (.bipush 12, 2) := by decide +kernel
theorem dX6_rule_34 : decode cX6_rule 34 = .ok (.if_icmp .lt 6, 3) := by decide +kernel
theorem dX6_rule_37 : decode cX6_rule 37 = .ok (.bipush (-4), 2) := by decide +kernel
theorem dX6_rule_39 : decode cX6_rule 39 = .ok (.ireturn, 1) := by decide +kernel
theorem dX6_rule_40 : decode cX6_rule 40 = .ok (.aload_n 0, 1) := by decide +kernel
theorem dX6_rule_41 : decode cX6_rule 41 = .ok (.getfield 10, 3) := by decide +kernel
theorem dX6_rule_44 : decode cX6_rule 44 = .ok (.new 59, 3) := by decide +kernel
theorem dX6_rule_47 : decode cX6_rule 47 = .ok (.dup, 1) := by decide +kernel
theorem dX6_rule_48 : decode cX6_rule 48 = .ok (.iload_n 1, 1) := by decide +kernel
theorem dX6_rule_49 : decode cX6_rule 49 = .ok (.iload_n 2, 1) := by decide +kernel
theorem dX6_rule_50 : decode cX6_rule 50 = .ok (.iload_n 3, 1) := by decide +kernel
theorem dX6_rule_51 : decode cX6_rule 51 = .ok (.iload 4, 2) := by decide +kernel
theorem dX6_rule_53 : decode cX6_rule 53 = .ok (.iload 5, 2) := by decide +kernel
theorem dX6_rule_55 : decode cX6_rule 55 = .ok (.invokespecial 61, 3) := by decide +kernel
theorem dX6_rule_58 : decode cX6_rule 58 = .ok (.invokevirtual 64, 3) := by decide +kernel
theorem dX6_rule_61 : decode cX6_rule 61 = .ok (.istore 6, 2) := by decide +kernel
theorem dX6_rule_63 : decode cX6_rule 63 = .ok (.aload_n 0, 1) := by decide +kernel
theorem dX6_rule_64 : decode cX6_rule 64 = .ok (.getfield 18, 3) := by decide +kernel
theorem dX6_rule_67 : decode cX6_rule 67 = .ok (.iconst 0, 1) := by decide +kernel
theorem dX6_rule_68 : decode cX6_rule 68 = .ok (.aaload, 1) := by decide +kernel
theorem dX6_rule_69 : decode cX6_rule 69 = .ok (.getfield 68, 3) := by decide +kernel
theorem dX6_rule_72 : decode cX6_rule 72 = .ok (.iload 6, 2) := by decide +kernel
theorem dX6_rule_74 : decode cX6_rule 74 = .ok (.aload_n 0, 1) := by decide +kernel
theorem dX6_rule_75 : decode cX6_rule 75 = .ok (.getfield 18, 3) := by decide +kernel
theorem dX6_rule_78 : decode cX6_rule 78 = .ok (.iconst 0, 1) := by decide +kernel
theorem dX6_rule_79 : decode cX6_rule 79 = .ok (.aaload, 1) := by decide +kernel
theorem dX6_rule_80 : decode cX6_rule 80 = .ok (.iload 6, 2) := by decide +kernel
theorem dX6_rule_82 : decode cX6_rule 82 = .ok (.invokevirtual 72, 3) := by decide +kernel
theorem dX6_rule_85 : decode cX6_rule 85 = .ok (.lastore, 1) := by decide +kernel
theorem dX6_rule_86 : decode cX6_rule 86 = .ok (.iload 6, 2) := by decide +kernel
theorem dX6_rule_88 : decode cX6_rule 88 = .ok (.ireturn, 1) := by decide +kernel
theorem dX6_forget_0 : decode cX6_forget 0 = .ok (.aload_n 0, 1) := by decide +kernel
theorem dX6_forget_1 : decode cX6_forget 1 = .ok (.iload_n 1, 1) := by decide +kernel
theorem dX6_forget_2 : decode cX6_forget 2 = .ok (.invokevirtual 76, 3) := by decide +kernel
theorem dX6_forget_5 : decode cX6_forget 5 = .ok (.astore 4, 2) := by decide +kernel
theorem dX6_forget_7 : decode cX6_forget 7 = .ok (.aload 4, 2) := by decide +kernel
theorem dX6_forget_9 : decode cX6_forget 9 = .ok (.ifnull 14, 3) := by decide +kernel
theorem dX6_forget_12 : decode cX6_forget 12 = .ok (.aload_n 0, 1) := by decide +kernel
theorem dX6_forget_13 : decode cX6_forget 13 = .ok (.getfield 10, 3) := by decide +kernel
theorem dX6_forget_16 : decode cX6_forget 16 = .ok (.iload_n 2, 1) := by decide +kernel
theorem dX6_forget_17 : decode cX6_forget 17 = .ok (.invokevirtual 80, 3) := by decide +kernel
theorem dX6_forget_20 : decode cX6_forget 20 = .ok (.ifCond .ne 5, 3) := by decide +kernel
theorem dX6_forget_23 : decode cX6_forget 23 = .ok (.iconst (-1), 1) := by decide +kernel
theorem dX6_forget_24 : decode cX6_forget 24 = .ok (.ireturn, 1) := by decide +kernel
theorem dX6_forget_25 : decode cX6_forget 25 = .ok (.aload 4, 2) := by decide +kernel
theorem dX6_forget_27 : decode cX6_forget 27 = .ok (.getfield 84, 3) := by decide +kernel
theorem dX6_forget_30 : decode cX6_forget 30 = .ok (.iload_n 2, 1) := by decide +kernel
theorem dX6_forget_31 : decode cX6_forget 31 = .ok (.baload, 1) := by decide +kernel
theorem dX6_forget_32 : decode cX6_forget 32 = .ok (.istore 5, 2) := by decide +kernel
theorem dX6_forget_34 : decode cX6_forget 34 = .ok (.aload 4, 2) := by decide +kernel
theorem dX6_forget_36 : decode cX6_forget 36 = .ok (.getfield 84, 3) := by decide +kernel
theorem dX6_forget_39 : decode cX6_forget 39 = .ok (.iload_n 2, 1) := by decide +kernel
theorem dX6_forget_40 : decode cX6_forget 40 = .ok (.iload_n 3, 1) := by decide +kernel
theorem dX6_forget_41 : decode cX6_forget 41 = .ok (.bastore, 1) := by decide +kernel
theorem dX6_forget_42 : decode cX6_forget 42 = .ok (.iload 5, 2) := by decide +kernel
theorem dX6_forget_44 : decode cX6_forget 44 = .ok (.invokestatic 88, 3) := by decide +kernel
theorem dX6_forget_47 : decode cX6_forget 47 = .ok (.ireturn, 1) := by decide +kernel
theorem dX6_fork_0 : decode cX6_fork 0 = .ok (.aload_n 0, 1) := by decide +kernel
theorem dX6_fork_1 : decode cX6_fork 1 = .ok (.iload_n 1, 1) := by decide +kernel
theorem dX6_fork_2 : decode cX6_fork 2 = .ok (.invokevirtual 76, 3) := by decide +kernel
theorem dX6_fork_5 : decode cX6_fork 5 = .ok (.astore_n 2, 1) := by decide +kernel
theorem dX6_fork_6 : decode cX6_fork 6 = .ok (.aload_n 2, 1) := by decide +kernel
theorem dX6_fork_7 : decode cX6_fork 7 = .ok (.ifnonnull 5, 3) := by decide +kernel
theorem dX6_fork_10 : decode cX6_fork 10 = .ok (.iconst (-1), 1) := by decide +kernel
theorem dX6_fork_11 : decode cX6_fork 11 = .ok (.ireturn, 1) := by decide +kernel
theorem dX6_fork_12 : decode cX6_fork 12 = .ok (.aload_n 0, 1) := by decide +kernel
theorem dX6_fork_13 : decode cX6_fork 13 = .ok (.getfield 25, 3) := by decide +kernel
theorem dX6_fork_16 : decode cX6_fork 16 = .ok (.iconst 4, 1) := by decide +kernel
theorem dX6_fork_17 : decode cX6_fork 17 = .ok (.if_icmp .lt 6, 3) := by decide +kernel
theorem dX6_fork_20 : decode cX6_fork 20 = .ok (.bipush (-4), 2) := by decide +kernel
theorem dX6_fork_22 : decode cX6_fork 22 = .ok (.ireturn, 1) := by decide +kernel
theorem dX6_fork_23 : decode cX6_fork 23 = .ok (.new 16, 3) := by decide +kernel
theorem dX6_fork_26 : decode cX6_fork 26 = .ok (.dup, 1) := by decide +kernel
theorem dX6_fork_27 : decode cX6_fork 27 = .ok (.aload_n 0, 1) := by decide +kernel
theorem dX6_fork_28 : decode cX6_fork 28 = .ok (.getfield 10, 3) := by decide +kernel
theorem dX6_fork_31 : decode cX6_fork 31 = .ok (.invokespecial 22, 3) := by decide +kernel
theorem dX6_fork_34 : decode cX6_fork 34 = .ok (.astore_n 3, 1) := by decide +kernel
theorem dX6_fork_35 : decode cX6_fork 35 = .ok (.aload_n 3, 1) := by decide +kernel
theorem dX6_fork_36 : decode cX6_fork 36 = .ok (.aload_n 2, 1) := by decide +kernel
theorem dX6_fork_37 : decode cX6_fork 37 = .ok (.invokevirtual 92, 3) := by decide +kernel
theorem dX6_fork_40 : decode cX6_fork 40 = .ok (.aload_n 0, 1) := by decide +kernel
theorem dX6_fork_41 : decode cX6_fork 41 = .ok (.getfield 18, 3) := by decide +kernel
theorem dX6_fork_44 : decode cX6_fork 44 = .ok (.aload_n 0, 1) := by decide +kernel
theorem dX6_fork_45 : decode cX6_fork 45 = .ok (.getfield 25, 3) := by decide +kernel
theorem dX6_fork_48 : decode cX6_fork 48 = .ok (.aload_n 3, 1) := by decide +kernel
theorem dX6_fork_49 : decode cX6_fork 49 = .ok (.aastore, 1) := by decide +kernel
theorem dX6_fork_50 : decode cX6_fork 50 = .ok (.aload_n 0, 1) := by decide +kernel
theorem dX6_fork_51 : decode cX6_fork 51 = .ok (.dup, 1) := by decide +kernel
theorem dX6_fork_52 : decode cX6_fork 52 = .ok (.getfield 25, 3) := by decide +kernel
theorem dX6_fork_55 : decode cX6_fork 55 = .ok (.iconst 1, 1) := by decide +kernel
theorem dX6_fork_56 : decode cX6_fork 56 = .ok (.iadd, 1) := by decide +kernel
theorem dX6_fork_57 : decode cX6_fork 57 = .ok (.putfield 25, 3) := by decide +kernel
theorem dX6_fork_60 : decode cX6_fork 60 = .ok (.aload_n 0, 1) := by decide +kernel
theorem dX6_fork_61 : decode cX6_fork 61 = .ok (.getfield 25, 3) := by decide +kernel
theorem dX6_fork_64 : decode cX6_fork 64 = .ok (.iconst 1, 1) := by decide +kernel
theorem dX6_fork_65 : decode cX6_fork 65 = .ok (.isub, 1) := by decide +kernel
theorem dX6_fork_66 : decode cX6_fork 66 = .ok (.ireturn, 1) := by decide +kernel
theorem dX6_change_0 : decode cX6_change 0 = .ok (.aload_n 0, 1) := by decide +kernel
theorem dX6_change_1 : decode cX6_change 1 = .ok (.iload_n 1, 1) := by decide +kernel
theorem dX6_change_2 : decode cX6_change 2 = .ok (.invokevirtual 76, 3) := by decide +kernel
theorem dX6_change_5 : decode cX6_change 5 = .ok (.astore 5, 2) := by decide +kernel
theorem dX6_change_7 : decode cX6_change 7 = .ok (.aload 5, 2) := by decide +kernel
theorem dX6_change_9 : decode cX6_change 9 = .ok (.ifnonnull 7, 3) := by decide +kernel
theorem dX6_change_12 : decode cX6_change 12 = .ok (.iconst (-1), 1) := by decide +kernel
theorem dX6_change_13 : decode cX6_change 13 = .ok (.goto 16, 3) := by decide +kernel
theorem dX6_change_16 : decode cX6_change 16 = .ok (.aload 5, 2) := by decide +kernel
theorem dX6_change_18 : decode cX6_change 18 = .ok (.iload_n 2, 1) := by decide +kernel
theorem dX6_change_19 : decode cX6_change 19 = .ok (.iload_n 3, 1) := by decide +kernel
theorem dX6_change_20 : decode cX6_change 20 = .ok (.iload 4, 2) := by decide +kernel
theorem dX6_change_22 : decode cX6_change 22 = .ok (.aload_n 0, 1) := by decide +kernel
theorem dX6_change_23 : decode cX6_change 23 = .ok (.getfield 96, 3) := by decide +kernel
theorem dX6_change_26 : decode cX6_change 26 = .ok (.invokevirtual 99, 3) := by decide +kernel
theorem dX6_change_29 : decode cX6_change 29 = .ok (.ireturn, 1) := by decide +kernel
theorem dX6_attempt_0 : decode cX6_attempt 0 = .ok (.aload_n 0, 1) := by decide +kernel
theorem dX6_attempt_1 : decode cX6_attempt 1 = .ok (.iload_n 1, 1) := by decide +kernel
theorem dX6_attempt_2 : decode cX6_attempt 2 = .ok (.invokevirtual 76, 3) := by decide +kernel
theorem dX6_attempt_5 : decode cX6_attempt 5 = .ok (.astore 6, 2) := by decide +kernel
theorem dX6_attempt_7 : decode cX6_attempt 7 = .ok (.aload 6, 2) := by decide +kernel
theorem dX6_attempt_9 : decode cX6_attempt 9 = .ok (.ifnull 11, 3) := by decide +kernel
theorem dX6_attempt_12 : decode cX6_attempt 12 = .ok (.iload 5, 2) := by decide +kernel
theorem dX6_attempt_14 : decode cX6_attempt 14 = .ok (.invokestatic 103, 3) := by decide +kernel
theorem dX6_attempt_17 : decode cX6_attempt 17 = .ok (.ifCond .ne 9, 3) := by decide +kernel
theorem dX6_attempt_20 : decode cX6_attempt 20 = .ok (.ldc2_w 106, 3) := by decide +kernel
theorem dX6_attempt_23 : decode cX6_attempt 23 = .ok (.goto 14, 3) := by decide +kernel
theorem dX6_attempt_26 : decode cX6_attempt 26 = .ok (.aload 6, 2) := by decide +kernel
theorem dX6_attempt_28 : decode cX6_attempt 28 = .ok (.iload_n 2, 1) := by decide +kernel
theorem dX6_attempt_29 : decode cX6_attempt 29 = .ok (.iload_n 3, 1) := by decide +kernel
theorem dX6_attempt_30 : decode cX6_attempt 30 = .ok (.iload 4, 2) := by decide +kernel
theorem dX6_attempt_32 : decode cX6_attempt 32 = .ok (.iload 5, 2) := by decide +kernel
theorem dX6_attempt_34 : decode cX6_attempt 34 = .ok (.invokevirtual 108, 3) := by decide +kernel
theorem dX6_attempt_37 : decode cX6_attempt 37 = .ok (.lreturn, 1) := by decide +kernel
theorem dX6_undo_0 : decode cX6_undo 0 = .ok (.aload_n 0, 1) := by decide +kernel
theorem dX6_undo_1 : decode cX6_undo 1 = .ok (.iload_n 1, 1) := by decide +kernel
theorem dX6_undo_2 : decode cX6_undo 2 = .ok (.invokevirtual 76, 3) := by decide +kernel
theorem dX6_undo_5 : decode cX6_undo 5 = .ok (.astore_n 2, 1) := by decide +kernel
theorem dX6_undo_6 : decode cX6_undo 6 = .ok (.aload_n 2, 1) := by decide +kernel
theorem dX6_undo_7 : decode cX6_undo 7 = .ok (.ifnonnull 5, 3) := by decide +kernel
theorem dX6_undo_10 : decode cX6_undo 10 = .ok (.iconst (-1), 1) := by decide +kernel
theorem dX6_undo_11 : decode cX6_undo 11 = .ok (.ireturn, 1) := by decide +kernel
theorem dX6_undo_12 : decode cX6_undo 12 = .ok (.aload_n 2, 1) := by decide +kernel
theorem dX6_undo_13 : decode cX6_undo 13 = .ok (.invokevirtual 112, 3) := by decide +kernel
theorem dX6_undo_16 : decode cX6_undo 16 = .ok (.ifCond .ne 6, 3) := by decide +kernel
theorem dX6_undo_19 : decode cX6_undo 19 = .ok (.bipush (-3), 2) := by decide +kernel
theorem dX6_undo_21 : decode cX6_undo 21 = .ok (.ireturn, 1) := by decide +kernel
theorem dX6_undo_22 : decode cX6_undo 22 = .ok (.aload_n 2, 1) := by decide +kernel
theorem dX6_undo_23 : decode cX6_undo 23 = .ok (.invokevirtual 115, 3) := by decide +kernel
theorem dX6_undo_26 : decode cX6_undo 26 = .ok (.aload_n 2, 1) := by decide +kernel
theorem dX6_undo_27 : decode cX6_undo 27 = .ok (.getfield 118, 3) := by decide +kernel
theorem dX6_undo_30 : decode cX6_undo 30 = .ok (.getfield 122, 3) := by decide +kernel
theorem dX6_undo_33 : decode cX6_undo 33 = .ok (.ireturn, 1) := by decide +kernel
theorem dX6_begin_0 : decode cX6_begin 0 = .ok (.aload_n 0, 1) := by decide +kernel
theorem dX6_begin_1 : decode cX6_begin 1 = .ok (.iload_n 1, 1) := by decide +kernel
theorem dX6_begin_2 : decode cX6_begin 2 = .ok (.invokevirtual 76, 3) := by decide +kernel
theorem dX6_begin_5 : decode cX6_begin 5 = .ok (.astore_n 2, 1) := by decide +kernel
theorem dX6_begin_6 : decode cX6_begin 6 = .ok (.aload_n 2, 1) := by decide +kernel
theorem dX6_begin_7 : decode cX6_begin 7 = .ok (.ifnonnull 5, 3) := by decide +kernel
theorem dX6_begin_10 : decode cX6_begin 10 = .ok (.iconst (-1), 1) := by decide +kernel
theorem dX6_begin_11 : decode cX6_begin 11 = .ok (.ireturn, 1) := by decide +kernel
theorem dX6_begin_12 : decode cX6_begin 12 = .ok (.aload_n 2, 1) := by decide +kernel
theorem dX6_begin_13 : decode cX6_begin 13 = .ok (.getfield 127, 3) := by decide +kernel
theorem dX6_begin_16 : decode cX6_begin 16 = .ok (.ifCond .eq 6, 3) := by decide +kernel
theorem dX6_begin_19 : decode cX6_begin 19 = .ok (.bipush (-3), 2) := by decide +kernel
theorem dX6_begin_21 : decode cX6_begin 21 = .ok (.ireturn, 1) := by decide +kernel
theorem dX6_begin_22 : decode cX6_begin 22 = .ok (.aload_n 2, 1) := by decide +kernel
theorem dX6_begin_23 : decode cX6_begin 23 = .ok (.iconst 1, 1) := by decide +kernel
theorem dX6_begin_24 : decode cX6_begin 24 = .ok (.putfield 127, 3) := by decide +kernel
theorem dX6_begin_27 : decode cX6_begin 27 = .ok (.aload_n 2, 1) := by decide +kernel
theorem dX6_begin_28 : decode cX6_begin 28 = .ok (.iconst 0, 1) := by decide +kernel
theorem dX6_begin_29 : decode cX6_begin 29 = .ok (.putfield 131, 3) := by decide +kernel
theorem dX6_begin_32 : decode cX6_begin 32 = .ok (.aload_n 2, 1) := by decide +kernel
theorem dX6_begin_33 : decode cX6_begin 33 = .ok (.getfield 118, 3) := by decide +kernel
theorem dX6_begin_36 : decode cX6_begin 36 = .ok (.getfield 122, 3) := by decide +kernel
theorem dX6_begin_39 : decode cX6_begin 39 = .ok (.ireturn, 1) := by decide +kernel
theorem dX6_end_0 : decode cX6_end 0 = .ok (.aload_n 0, 1) := by decide +kernel
theorem dX6_end_1 : decode cX6_end 1 = .ok (.iload_n 1, 1) := by decide +kernel
theorem dX6_end_2 : decode cX6_end 2 = .ok (.invokevirtual 76, 3) := by decide +kernel
theorem dX6_end_5 : decode cX6_end 5 = .ok (.astore_n 3, 1) := by decide +kernel
theorem dX6_end_6 : decode cX6_end 6 = .ok (.aload_n 3, 1) := by decide +kernel
theorem dX6_end_7 : decode cX6_end 7 = .ok (.ifnonnull 5, 3) := by decide +kernel
theorem dX6_end_10 : decode cX6_end 10 = .ok (.iconst (-1), 1) := by decide +kernel
theorem dX6_end_11 : decode cX6_end 11 = .ok (.ireturn, 1) := by decide +kernel
theorem dX6_end_12 : decode cX6_end 12 = .ok (.aload_n 3, 1) := by decide +kernel
theorem dX6_end_13 : decode cX6_end 13 = .ok (.getfield 127, 3) := by decide +kernel
theorem dX6_end_16 : decode cX6_end 16 = .ok (.ifCond .eq 11, 3) := by decide +kernel
theorem dX6_end_19 : decode cX6_end 19 = .ok (.aload_n 3, 1) := by decide +kernel
theorem dX6_end_20 : decode cX6_end 20 = .ok (.iload_n 2, 1) := by decide +kernel
theorem dX6_end_21 : decode cX6_end 21 = .ok (.invokevirtual 134, 3) := by decide +kernel
theorem dX6_end_24 : decode cX6_end 24 = .ok (.goto 5, 3) := by decide +kernel
theorem dX6_end_27 : decode cX6_end 27 = .ok (.bipush (-3), 2) := by decide +kernel
theorem dX6_end_29 : decode cX6_end 29 = .ok (.ireturn, 1) := by decide +kernel
theorem dX6_member_0 : decode cX6_member 0 = .ok (.aload_n 0, 1) := by decide +kernel
theorem dX6_member_1 : decode cX6_member 1 = .ok (.iload_n 1, 1) := by decide +kernel
theorem dX6_member_2 : decode cX6_member 2 = .ok (.invokevirtual 76, 3) := by decide +kernel
theorem dX6_member_5 : decode cX6_member 5 = .ok (.astore 4, 2) := by decide +kernel
theorem dX6_member_7 : decode cX6_member 7 = .ok (.aload 4, 2) := by decide +kernel
theorem dX6_member_9 : decode cX6_member 9 = .ok (.ifnonnull 8, 3) := by decide +kernel
theorem dX6_member_12 : decode cX6_member 12 = .ok (.ldc 137, 2) := by decide +kernel
theorem dX6_member_14 : decode cX6_member 14 = .ok (.goto 13, 3) := by decide +kernel
theorem dX6_member_17 : decode cX6_member 17 = .ok (.aload 4, 2) := by decide +kernel
theorem dX6_member_19 : decode cX6_member 19 = .ok (.getfield 39, 3) := by decide +kernel
theorem dX6_member_22 : decode cX6_member 22 = .ok (.iload_n 2, 1) := by decide +kernel
theorem dX6_member_23 : decode cX6_member 23 = .ok (.iload_n 3, 1) := by decide +kernel
theorem dX6_member_24 : decode cX6_member 24 = .ok (.invokevirtual 138, 3) := by decide +kernel
theorem dX6_member_27 : decode cX6_member 27 = .ok (.ireturn, 1) := by decide +kernel
theorem dX6_score_0 : decode cX6_score 0 = .ok (.aload_n 0, 1) := by decide +kernel
theorem dX6_score_1 : decode cX6_score 1 = .ok (.iload_n 1, 1) := by decide +kernel
theorem dX6_score_2 : decode cX6_score 2 = .ok (.invokevirtual 76, 3) := by decide +kernel
theorem dX6_score_5 : decode cX6_score 5 = .ok (.astore_n 3, 1) := by decide +kernel
theorem dX6_score_6 : decode cX6_score 6 = .ok (.aload_n 3, 1) := by decide +kernel
theorem dX6_score_7 : decode cX6_score 7 = .ok (.ifnull 10, 3) := by decide +kernel
theorem dX6_score_10 : decode cX6_score 10 = .ok (.iload_n 2, 1) := by decide +kernel
theorem dX6_score_11 : decode cX6_score 11 = .ok (.invokestatic 103, 3) := by decide +kernel
theorem dX6_score_14 : decode cX6_score 14 = .ok (.ifCond .ne 9, 3) := by decide +kernel
theorem dX6_score_17 : decode cX6_score 17 = .ok (.ldc2_w 106, 3) := by decide +kernel
theorem dX6_score_20 : decode cX6_score 20 = .ok (.goto 8, 3) := by decide +kernel
theorem dX6_score_23 : decode cX6_score 23 = .ok (.aload_n 3, 1) := by decide +kernel
theorem dX6_score_24 : decode cX6_score 24 = .ok (.iload_n 2, 1) := by decide +kernel
theorem dX6_score_25 : decode cX6_score 25 = .ok (.invokevirtual 142, 3) := by decide +kernel
theorem dX6_score_28 : decode cX6_score 28 = .ok (.lreturn, 1) := by decide +kernel
theorem dX6_worth_0 : decode cX6_worth 0 = .ok (.aload_n 0, 1) := by decide +kernel
theorem dX6_worth_1 : decode cX6_worth 1 = .ok (.iload_n 1, 1) := by decide +kernel
theorem dX6_worth_2 : decode cX6_worth 2 = .ok (.invokevirtual 76, 3) := by decide +kernel
theorem dX6_worth_5 : decode cX6_worth 5 = .ok (.astore 4, 2) := by decide +kernel
theorem dX6_worth_7 : decode cX6_worth 7 = .ok (.aload 4, 2) := by decide +kernel
theorem dX6_worth_9 : decode cX6_worth 9 = .ok (.ifnull 23, 3) := by decide +kernel
theorem dX6_worth_12 : decode cX6_worth 12 = .ok (.aload_n 0, 1) := by decide +kernel
theorem dX6_worth_13 : decode cX6_worth 13 = .ok (.getfield 10, 3) := by decide +kernel
theorem dX6_worth_16 : decode cX6_worth 16 = .ok (.iload_n 2, 1) := by decide +kernel
theorem dX6_worth_17 : decode cX6_worth 17 = .ok (.invokevirtual 80, 3) := by decide +kernel
theorem dX6_worth_20 : decode cX6_worth 20 = .ok (.ifCond .eq 12, 3) := by decide +kernel
theorem dX6_worth_23 : decode cX6_worth 23 = .ok (.iload_n 3, 1) := by decide +kernel
theorem dX6_worth_24 : decode cX6_worth 24 = .ok (.iconst 0, 1) := by decide +kernel
theorem dX6_worth_25 : decode cX6_worth 25 = .ok (.iconst 1, 1) := by decide +kernel
theorem dX6_worth_26 : decode cX6_worth 26 = .ok (.invokestatic 145, 3) := by decide +kernel
theorem dX6_worth_29 : decode cX6_worth 29 = .ok (.ifCond .ne 7, 3) := by decide +kernel
theorem dX6_worth_32 : decode cX6_worth 32 = .ok (.ldc2_w 106, 3) := by decide +kernel
theorem dX6_worth_35 : decode cX6_worth 35 = .ok (.lreturn, 1) := by decide +kernel
theorem dX6_worth_36 : decode cX6_worth 36 = .ok (.iload_n 3, 1) := by decide +kernel
theorem dX6_worth_37 : decode cX6_worth 37 = .ok (.ifCond .ne 13, 3) := by decide +kernel
theorem dX6_worth_40 : decode cX6_worth 40 = .ok (.aload 4, 2) := by decide +kernel
theorem dX6_worth_42 : decode cX6_worth 42 = .ok (.getfield 68, 3) := by decide +kernel
theorem dX6_worth_45 : decode cX6_worth 45 = .ok (.iload_n 2, 1) := by decide +kernel
theorem dX6_worth_46 : decode cX6_worth 46 = .ok (.laload, 1) := by decide +kernel
theorem dX6_worth_47 : decode cX6_worth 47 = .ok (.goto 9, 3) := by decide +kernel
theorem dX6_worth_50 : decode cX6_worth 50 = .ok (.aload 4, 2) := by decide +kernel
theorem dX6_worth_52 : decode cX6_worth 52 = .ok (.iload_n 2, 1) := by decide +kernel
theorem dX6_worth_53 : decode cX6_worth 53 = .ok (.invokevirtual 72, 3) := by decide +kernel
theorem dX6_worth_56 : decode cX6_worth 56 = .ok (.lreturn, 1) := by decide +kernel
theorem dX6_check_0 : decode cX6_check 0 = .ok (.aload_n 0, 1) := by decide +kernel
theorem dX6_check_1 : decode cX6_check 1 = .ok (.iload_n 1, 1) := by decide +kernel
theorem dX6_check_2 : decode cX6_check 2 = .ok (.invokevirtual 76, 3) := by decide +kernel
theorem dX6_check_5 : decode cX6_check 5 = .ok (.astore_n 2, 1) := by decide +kernel
theorem dX6_check_6 : decode cX6_check 6 = .ok (.aload_n 2, 1) := by decide +kernel
theorem dX6_check_7 : decode cX6_check 7 = .ok (.ifnonnull 7, 3) := by decide +kernel
theorem dX6_check_10 : decode cX6_check 10 = .ok (.iconst (-1), 1) := by decide +kernel
theorem dX6_check_11 : decode cX6_check 11 = .ok (.goto 7, 3) := by decide +kernel
theorem dX6_check_14 : decode cX6_check 14 = .ok (.aload_n 2, 1) := by decide +kernel
theorem dX6_check_15 : decode cX6_check 15 = .ok (.invokevirtual 149, 3) := by decide +kernel
theorem dX6_check_18 : decode cX6_check 18 = .ok (.ireturn, 1) := by decide +kernel
theorem dX6_every_0 : decode cX6_every 0 = .ok (.iload_n 1, 1) := by decide +kernel
theorem dX6_every_1 : decode cX6_every 1 = .ok (.iconst 0, 1) := by decide +kernel
theorem dX6_every_2 : decode cX6_every 2 = .ok (.bipush 100, 2) := by decide +kernel
theorem dX6_every_4 : decode cX6_every 4 = .ok (.invokestatic 145, 3) := by decide +kernel
theorem dX6_every_7 : decode cX6_every 7 = .ok (.ifCond .ne 5, 3) := by decide +kernel
theorem dX6_every_10 : decode cX6_every 10 = .ok (.iconst (-1), 1) := by decide +kernel
theorem dX6_every_11 : decode cX6_every 11 = .ok (.ireturn, 1) := by decide +kernel
theorem dX6_every_12 : decode cX6_every 12 = .ok (.aload_n 0, 1) := by decide +kernel
theorem dX6_every_13 : decode cX6_every 13 = .ok (.getfield 96, 3) := by decide +kernel
theorem dX6_every_16 : decode cX6_every 16 = .ok (.istore_n 2, 1) := by decide +kernel
theorem dX6_every_17 : decode cX6_every 17 = .ok (.aload_n 0, 1) := by decide +kernel
theorem dX6_every_18 : decode cX6_every 18 = .ok (.iload_n 1, 1) := by decide +kernel
theorem dX6_every_19 : decode cX6_every 19 = .ok (.putfield 96, 3) := by decide +kernel
theorem dX6_every_22 : decode cX6_every 22 = .ok (.iload_n 2, 1) := by decide +kernel
theorem dX6_every_23 : decode cX6_every 23 = .ok (.ireturn, 1) := by decide +kernel
theorem dX6_mend_0 : decode cX6_mend 0 = .ok (.aload_n 0, 1) := by decide +kernel
theorem dX6_mend_1 : decode cX6_mend 1 = .ok (.iload_n 1, 1) := by decide +kernel
theorem dX6_mend_2 : decode cX6_mend 2 = .ok (.invokevirtual 76, 3) := by decide +kernel
theorem dX6_mend_5 : decode cX6_mend 5 = .ok (.astore_n 3, 1) := by decide +kernel
theorem dX6_mend_6 : decode cX6_mend 6 = .ok (.aload_n 3, 1) := by decide +kernel
theorem dX6_mend_7 : decode cX6_mend 7 = .ok (.ifnull 14, 3) := by decide +kernel
theorem dX6_mend_10 : decode cX6_mend 10 = .ok (.aload_n 0, 1) := by decide +kernel
theorem dX6_mend_11 : decode cX6_mend 11 = .ok (.getfield 10, 3) := by decide +kernel
theorem dX6_mend_14 : decode cX6_mend 14 = .ok (.iload_n 2, 1) := by decide +kernel
theorem dX6_mend_15 : decode cX6_mend 15 = .ok (.invokevirtual 80, 3) := by decide +kernel
theorem dX6_mend_18 : decode cX6_mend 18 = .ok (.ifCond .ne 5, 3) := by decide +kernel
theorem dX6_mend_21 : decode cX6_mend 21 = .ok (.iconst (-1), 1) := by decide +kernel
theorem dX6_mend_22 : decode cX6_mend 22 = .ok (.ireturn, 1) := by decide +kernel
theorem dX6_mend_23 : decode cX6_mend 23 = .ok (.aload_n 3, 1) := by decide +kernel
theorem dX6_mend_24 : decode cX6_mend 24 = .ok (.iload_n 2, 1) := by decide +kernel
theorem dX6_mend_25 : decode cX6_mend 25 = .ok (.invokevirtual 152, 3) := by decide +kernel
theorem dX6_mend_28 : decode cX6_mend 28 = .ok (.istore 4, 2) := by decide +kernel
theorem dX6_mend_30 : decode cX6_mend 30 = .ok (.aload_n 3, 1) := by decide +kernel
theorem dX6_mend_31 : decode cX6_mend 31 = .ok (.getfield 68, 3) := by decide +kernel
theorem dX6_mend_34 : decode cX6_mend 34 = .ok (.iload_n 2, 1) := by decide +kernel
theorem dX6_mend_35 : decode cX6_mend 35 = .ok (.aload_n 3, 1) := by decide +kernel
theorem dX6_mend_36 : decode cX6_mend 36 = .ok (.iload_n 2, 1) := by decide +kernel
theorem dX6_mend_37 : decode cX6_mend 37 = .ok (.invokevirtual 72, 3) := by decide +kernel
theorem dX6_mend_40 : decode cX6_mend 40 = .ok (.lastore, 1) := by decide +kernel
theorem dX6_mend_41 : decode cX6_mend 41 = .ok (.iload 4, 2) := by decide +kernel
theorem dX6_mend_43 : decode cX6_mend 43 = .ok (.invokestatic 88, 3) := by decide +kernel
theorem dX6_mend_46 : decode cX6_mend 46 = .ok (.ireturn, 1) := by decide +kernel
theorem dX6_keep_0 : decode cX6_keep 0 = .ok (.aload_n 0, 1) := by decide +kernel
theorem dX6_keep_1 : decode cX6_keep 1 = .ok (.iload_n 1, 1) := by decide +kernel
theorem dX6_keep_2 : decode cX6_keep 2 = .ok (.invokevirtual 76, 3) := by decide +kernel
theorem dX6_keep_5 : decode cX6_keep 5 = .ok (.astore_n 2, 1) := by decide +kernel
theorem dX6_keep_6 : decode cX6_keep 6 = .ok (.aload_n 2, 1) := by decide +kernel
theorem dX6_keep_7 : decode cX6_keep 7 = .ok (.ifnonnull 5, 3) := by decide +kernel
theorem dX6_keep_10 : decode cX6_keep 10 = .ok (.iconst (-1), 1) := by decide +kernel
theorem dX6_keep_11 : decode cX6_keep 11 = .ok (.ireturn, 1) := by decide +kernel
theorem dX6_keep_12 : decode cX6_keep 12 = .ok (.aload_n 0, 1) := by decide +kernel
theorem dX6_keep_13 : decode cX6_keep 13 = .ok (.getfield 155, 3) := by decide +kernel
theorem dX6_keep_16 : decode cX6_keep 16 = .ok (.bipush 20, 2) := by decide +kernel
theorem dX6_keep_18 : decode cX6_keep 18 = .ok (.if_icmp .lt 6, 3) := by decide +kernel
theorem dX6_keep_21 : decode cX6_keep 21 = .ok (.bipush (-4), 2) := by decide +kernel
theorem dX6_keep_23 : decode cX6_keep 23 = .ok (.ireturn, 1) := by decide +kernel
theorem dX6_keep_24 : decode cX6_keep 24 = .ok (.aload_n 0, 1) := by decide +kernel
theorem dX6_keep_25 : decode cX6_keep 25 = .ok (.getfield 31, 3) := by decide +kernel
theorem dX6_keep_28 : decode cX6_keep 28 = .ok (.aload_n 0, 1) := by decide +kernel
theorem dX6_keep_29 : decode cX6_keep 29 = .ok (.getfield 155, 3) := by decide +kernel
theorem dX6_keep_32 : decode cX6_keep 32 = .ok (.new 29, 3) := by decide +kernel
theorem dX6_keep_35 : decode cX6_keep 35 = .ok (.dup, 1) := by decide +kernel
theorem dX6_keep_36 : decode cX6_keep 36 = .ok (.aload_n 2, 1) := by decide +kernel
theorem dX6_keep_37 : decode cX6_keep 37 = .ok (.invokespecial 158, 3) := by decide +kernel
theorem dX6_keep_40 : decode cX6_keep 40 = .ok (.aastore, 1) := by decide +kernel
theorem dX6_keep_41 : decode cX6_keep 41 = .ok (.aload_n 0, 1) := by decide +kernel
theorem dX6_keep_42 : decode cX6_keep 42 = .ok (.dup, 1) := by decide +kernel
theorem dX6_keep_43 : decode cX6_keep 43 = .ok (.getfield 155, 3) := by decide +kernel
theorem dX6_keep_46 : decode cX6_keep 46 = .ok (.iconst 1, 1) := by decide +kernel
theorem dX6_keep_47 : decode cX6_keep 47 = .ok (.iadd, 1) := by decide +kernel
theorem dX6_keep_48 : decode cX6_keep 48 = .ok (.putfield 155, 3) := by decide +kernel
theorem dX6_keep_51 : decode cX6_keep 51 = .ok (.aload_n 0, 1) := by decide +kernel
theorem dX6_keep_52 : decode cX6_keep 52 = .ok (.getfield 155, 3) := by decide +kernel
theorem dX6_keep_55 : decode cX6_keep 55 = .ok (.iconst 1, 1) := by decide +kernel
theorem dX6_keep_56 : decode cX6_keep 56 = .ok (.isub, 1) := by decide +kernel
theorem dX6_keep_57 : decode cX6_keep 57 = .ok (.ireturn, 1) := by decide +kernel
theorem dX6_kept_0 : decode cX6_kept 0 = .ok (.aload_n 0, 1) := by decide +kernel
theorem dX6_kept_1 : decode cX6_kept 1 = .ok (.iload_n 1, 1) := by decide +kernel
theorem dX6_kept_2 : decode cX6_kept 2 = .ok (.invokevirtual 160, 3) := by decide +kernel
theorem dX6_kept_5 : decode cX6_kept 5 = .ok (.astore_n 3, 1) := by decide +kernel
theorem dX6_kept_6 : decode cX6_kept 6 = .ok (.aload_n 3, 1) := by decide +kernel
theorem dX6_kept_7 : decode cX6_kept 7 = .ok (.ifnull 10, 3) := by decide +kernel
theorem dX6_kept_10 : decode cX6_kept 10 = .ok (.iload_n 2, 1) := by decide +kernel
theorem dX6_kept_11 : decode cX6_kept 11 = .ok (.invokestatic 103, 3) := by decide +kernel
theorem dX6_kept_14 : decode cX6_kept 14 = .ok (.ifCond .ne 9, 3) := by decide +kernel
theorem dX6_kept_17 : decode cX6_kept 17 = .ok (.ldc2_w 106, 3) := by decide +kernel
theorem dX6_kept_20 : decode cX6_kept 20 = .ok (.goto 9, 3) := by decide +kernel
theorem dX6_kept_23 : decode cX6_kept 23 = .ok (.aload_n 3, 1) := by decide +kernel
theorem dX6_kept_24 : decode cX6_kept 24 = .ok (.getfield 164, 3) := by decide +kernel
theorem dX6_kept_27 : decode cX6_kept 27 = .ok (.iload_n 2, 1) := by decide +kernel
theorem dX6_kept_28 : decode cX6_kept 28 = .ok (.laload, 1) := by decide +kernel
theorem dX6_kept_29 : decode cX6_kept 29 = .ok (.lreturn, 1) := by decide +kernel
theorem dX6_then_0 : decode cX6_then 0 = .ok (.aload_n 0, 1) := by decide +kernel
theorem dX6_then_1 : decode cX6_then 1 = .ok (.iload_n 1, 1) := by decide +kernel
theorem dX6_then_2 : decode cX6_then 2 = .ok (.invokevirtual 160, 3) := by decide +kernel
theorem dX6_then_5 : decode cX6_then 5 = .ok (.astore 4, 2) := by decide +kernel
theorem dX6_then_7 : decode cX6_then 7 = .ok (.aload 4, 2) := by decide +kernel
theorem dX6_then_9 : decode cX6_then 9 = .ok (.ifnonnull 8, 3) := by decide +kernel
theorem dX6_then_12 : decode cX6_then 12 = .ok (.ldc 137, 2) := by decide +kernel
theorem dX6_then_14 : decode cX6_then 14 = .ok (.goto 13, 3) := by decide +kernel
theorem dX6_then_17 : decode cX6_then 17 = .ok (.aload 4, 2) := by decide +kernel
theorem dX6_then_19 : decode cX6_then 19 = .ok (.getfield 167, 3) := by decide +kernel
theorem dX6_then_22 : decode cX6_then 22 = .ok (.iload_n 2, 1) := by decide +kernel
theorem dX6_then_23 : decode cX6_then 23 = .ok (.iload_n 3, 1) := by decide +kernel
theorem dX6_then_24 : decode cX6_then 24 = .ok (.invokevirtual 138, 3) := by decide +kernel
theorem dX6_then_27 : decode cX6_then 27 = .ok (.ireturn, 1) := by decide +kernel
theorem dX6_told_0 : decode cX6_told 0 = .ok (.aload_n 0, 1) := by decide +kernel
theorem dX6_told_1 : decode cX6_told 1 = .ok (.iload_n 1, 1) := by decide +kernel
theorem dX6_told_2 : decode cX6_told 2 = .ok (.invokevirtual 76, 3) := by decide +kernel
theorem dX6_told_5 : decode cX6_told 5 = .ok (.astore_n 3, 1) := by decide +kernel
theorem dX6_told_6 : decode cX6_told 6 = .ok (.aload_n 3, 1) := by decide +kernel
theorem dX6_told_7 : decode cX6_told 7 = .ok (.ifnonnull 7, 3) := by decide +kernel
theorem dX6_told_10 : decode cX6_told 10 = .ok (.iconst (-1), 1) := by decide +kernel
theorem dX6_told_11 : decode cX6_told 11 = .ok (.goto 8, 3) := by decide +kernel
theorem dX6_told_14 : decode cX6_told 14 = .ok (.aload_n 3, 1) := by decide +kernel
theorem dX6_told_15 : decode cX6_told 15 = .ok (.iload_n 2, 1) := by decide +kernel
theorem dX6_told_16 : decode cX6_told 16 = .ok (.invokevirtual 170, 3) := by decide +kernel
theorem dX6_told_19 : decode cX6_told 19 = .ok (.ireturn, 1) := by decide +kernel
theorem dX6_all_0 : decode cX6_all 0 = .ok (.iload_n 1, 1) := by decide +kernel
theorem dX6_all_1 : decode cX6_all 1 = .ok (.tableswitch 71 0 4 #[35, 48, 56, 61, 66], 35) := by decide +kernel
theorem dX6_all_36 : decode cX6_all 36 = .ok (.aload_n 0, 1) := by decide +kernel
theorem dX6_all_37 : decode cX6_all 37 = .ok (.getfield 18, 3) := by decide +kernel
theorem dX6_all_40 : decode cX6_all 40 = .ok (.iconst 0, 1) := by decide +kernel
theorem dX6_all_41 : decode cX6_all 41 = .ok (.aaload, 1) := by decide +kernel
theorem dX6_all_42 : decode cX6_all 42 = .ok (.getfield 39, 3) := by decide +kernel
theorem dX6_all_45 : decode cX6_all 45 = .ok (.getfield 43, 3) := by decide +kernel
theorem dX6_all_48 : decode cX6_all 48 = .ok (.ireturn, 1) := by decide +kernel
theorem dX6_all_49 : decode cX6_all 49 = .ok (.aload_n 0, 1) := by decide +kernel
theorem dX6_all_50 : decode cX6_all 50 = .ok (.getfield 10, 3) := by decide +kernel
theorem dX6_all_53 : decode cX6_all 53 = .ok (.getfield 56, 3) := by decide +kernel
theorem dX6_all_56 : decode cX6_all 56 = .ok (.ireturn, 1) := by decide +kernel
theorem dX6_all_57 : decode cX6_all 57 = .ok (.aload_n 0, 1) := by decide +kernel
theorem dX6_all_58 : decode cX6_all 58 = .ok (.getfield 25, 3) := by decide +kernel
theorem dX6_all_61 : decode cX6_all 61 = .ok (.ireturn, 1) := by decide +kernel
theorem dX6_all_62 : decode cX6_all 62 = .ok (.aload_n 0, 1) := by decide +kernel
theorem dX6_all_63 : decode cX6_all 63 = .ok (.getfield 96, 3) := by decide +kernel
theorem dX6_all_66 : decode cX6_all 66 = .ok (.ireturn, 1) := by decide +kernel
theorem dX6_all_67 : decode cX6_all 67 = .ok (.aload_n 0, 1) := by decide +kernel
theorem dX6_all_68 : decode cX6_all 68 = .ok (.getfield 155, 3) := by decide +kernel
theorem dX6_all_71 : decode cX6_all 71 = .ok (.ireturn, 1) := by decide +kernel
theorem dX6_all_72 : decode cX6_all 72 = .ok (.iconst (-1), 1) := by decide +kernel
theorem dX6_all_73 : decode cX6_all 73 = .ok (.ireturn, 1) := by decide +kernel
theorem dX6_isSettled_0 : decode cX6_isSettled 0 = .ok (.aload_n 0, 1) := by decide +kernel
theorem dX6_isSettled_1 : decode cX6_isSettled 1 = .ok (.getfield 25, 3) := by decide +kernel
theorem dX6_isSettled_4 : decode cX6_isSettled 4 = .ok (.iconst 1, 1) := by decide +kernel
theorem dX6_isSettled_5 : decode cX6_isSettled 5 = .ok (.if_icmp .gt 15, 3) := by decide +kernel
theorem dX6_isSettled_8 : decode cX6_isSettled 8 = .ok (.aload_n 0, 1) := by decide +kernel
theorem dX6_isSettled_9 : decode cX6_isSettled 9 = .ok (.getfield 18, 3) := by decide +kernel
theorem dX6_isSettled_12 : decode cX6_isSettled 12 = .ok (.iconst 0, 1) := by decide +kernel
theorem dX6_isSettled_13 : decode cX6_isSettled 13 = .ok (.aaload, 1) := by decide +kernel
theorem dX6_isSettled_14 : decode cX6_isSettled 14 = .ok (.getfield 174, 3) := by decide +kernel
theorem dX6_isSettled_17 : decode cX6_isSettled 17 = .ok (.ifCond .le 7, 3) := by decide +kernel
theorem dX6_isSettled_20 : decode cX6_isSettled 20 = .ok (.iconst 1, 1) := by decide +kernel
theorem dX6_isSettled_21 : decode cX6_isSettled 21 = .ok (.goto 4, 3) := by decide +kernel
theorem dX6_isSettled_24 : decode cX6_isSettled 24 = .ok (.iconst 0, 1) := by decide +kernel
theorem dX6_isSettled_25 : decode cX6_isSettled 25 = .ok (.ireturn, 1) := by decide +kernel
theorem dX6_planAt_0 : decode cX6_planAt 0 = .ok (.iload_n 1, 1) := by decide +kernel
theorem dX6_planAt_1 : decode cX6_planAt 1 = .ok (.ifCond .lt 20, 3) := by decide +kernel
theorem dX6_planAt_4 : decode cX6_planAt 4 = .ok (.iload_n 1, 1) := by decide +kernel
theorem dX6_planAt_5 : decode cX6_planAt 5 = .ok (.aload_n 0, 1) := by decide +kernel
theorem dX6_planAt_6 : decode cX6_planAt 6 = .ok (.getfield 25, 3) := by decide +kernel
theorem dX6_planAt_9 : decode cX6_planAt 9 = .ok (.if_icmp .ge 12, 3) := by decide +kernel
theorem dX6_planAt_12 : decode cX6_planAt 12 = .ok (.aload_n 0, 1) := by decide +kernel
theorem dX6_planAt_13 : decode cX6_planAt 13 = .ok (.getfield 18, 3) := by decide +kernel
theorem dX6_planAt_16 : decode cX6_planAt 16 = .ok (.iload_n 1, 1) := by decide +kernel
theorem dX6_planAt_17 : decode cX6_planAt 17 = .ok (.aaload, 1) := by decide +kernel
theorem dX6_planAt_18 : decode cX6_planAt 18 = .ok (.goto 4, 3) := by decide +kernel
theorem dX6_planAt_21 : decode cX6_planAt 21 = .ok (.aconst_null, 1) := by decide +kernel
theorem dX6_planAt_22 : decode cX6_planAt 22 = .ok (.areturn, 1) := by decide +kernel
theorem dX6_snapshotAt_0 : decode cX6_snapshotAt 0 = .ok (.iload_n 1, 1) := by decide +kernel
theorem dX6_snapshotAt_1 : decode cX6_snapshotAt 1 = .ok (.ifCond .lt 20, 3) := by decide +kernel
theorem dX6_snapshotAt_4 : decode cX6_snapshotAt 4 = .ok (.iload_n 1, 1) := by decide +kernel
theorem dX6_snapshotAt_5 : decode cX6_snapshotAt 5 = .ok (.aload_n 0, 1) := by decide +kernel
theorem dX6_snapshotAt_6 : decode cX6_snapshotAt 6 = .ok (.getfield 155, 3) := by decide +kernel
theorem dX6_snapshotAt_9 : decode cX6_snapshotAt 9 = .ok (.if_icmp .ge 12, 3) := by decide +kernel
theorem dX6_snapshotAt_12 : decode cX6_snapshotAt 12 = .ok (.aload_n 0, 1) := by decide +kernel
theorem dX6_snapshotAt_13 : decode cX6_snapshotAt 13 = .ok (.getfield 31, 3) := by decide +kernel
theorem dX6_snapshotAt_16 : decode cX6_snapshotAt 16 = .ok (.iload_n 1, 1) := by decide +kernel
theorem dX6_snapshotAt_17 : decode cX6_snapshotAt 17 = .ok (.aaload, 1) := by decide +kernel
theorem dX6_snapshotAt_18 : decode cX6_snapshotAt 18 = .ok (.goto 4, 3) := by decide +kernel
theorem dX6_snapshotAt_21 : decode cX6_snapshotAt 21 = .ok (.aconst_null, 1) := by decide +kernel
theorem dX6_snapshotAt_22 : decode cX6_snapshotAt 22 = .ok (.areturn, 1) := by decide +kernel
theorem dX6_isRule_0 : decode cX6_isRule 0 = .ok (.iload_n 0, 1) := by decide +kernel
theorem dX6_isRule_1 : decode cX6_isRule 1 = .ok (.iconst 0, 1) := by decide +kernel
theorem dX6_isRule_2 : decode cX6_isRule 2 = .ok (.iconst 5, 1) := by decide +kernel
theorem dX6_isRule_3 : decode cX6_isRule 3 = .ok (.invokestatic 145, 3) := by decide +kernel
theorem dX6_isRule_6 : decode cX6_isRule 6 = .ok (.ifCond .eq 46, 3) := by decide +kernel
theorem dX6_isRule_9 : decode cX6_isRule 9 = .ok (.iload_n 1, 1) := by decide +kernel
theorem dX6_isRule_10 : decode cX6_isRule 10 = .ok (.iconst 0, 1) := by decide +kernel
theorem dX6_isRule_11 : decode cX6_isRule 11 = .ok (.iconst 3, 1) := by decide +kernel
theorem dX6_isRule_12 : decode cX6_isRule 12 = .ok (.invokestatic 145, 3) := by decide +kernel
theorem dX6_isRule_15 : decode cX6_isRule 15 = .ok (.ifCond .eq 37, 3) := by decide +kernel
theorem dX6_isRule_18 : decode cX6_isRule 18 = .ok (.iload_n 2, 1) := by decide +kernel
theorem dX6_isRule_19 : decode cX6_isRule 19 = .ok (.ldc 137, 2) := by decide +kernel
theorem dX6_isRule_21 : decode cX6_isRule 21 = .ok (.ldc 177, 2) := by decide +kernel
theorem dX6_isRule_23 : decode cX6_isRule 23 = .ok (.invokestatic 145, 3) := by decide +kernel
theorem dX6_isRule_26 : decode cX6_isRule 26 = .ok (.ifCond .eq 26, 3) := by decide +kernel
theorem dX6_isRule_29 : decode cX6_isRule 29 = .ok (.iload_n 3, 1) := by decide +kernel
theorem dX6_isRule_30 : decode cX6_isRule 30 = .ok (.iconst 1, 1) := by decide +kernel
theorem dX6_isRule_31 : decode cX6_isRule 31 = .ok (.sipush 1000, 3) := by decide +kernel
theorem dX6_isRule_34 : decode cX6_isRule 34 = .ok (.invokestatic 145, 3) := by decide +kernel
theorem dX6_isRule_37 : decode cX6_isRule 37 = .ok (.ifCond .eq 15, 3) := by decide +kernel
theorem dX6_isRule_40 : decode cX6_isRule 40 = .ok (.iload 4, 2) := by decide +kernel
theorem dX6_isRule_42 : decode cX6_isRule 42 = .ok (.invokestatic 103, 3) := by decide +kernel
theorem dX6_isRule_45 : decode cX6_isRule 45 = .ok (.ifCond .eq 7, 3) := by decide +kernel
theorem dX6_isRule_48 : decode cX6_isRule 48 = .ok (.iconst 1, 1) := by decide +kernel
theorem dX6_isRule_49 : decode cX6_isRule 49 = .ok (.goto 4, 3) := by decide +kernel
theorem dX6_isRule_52 : decode cX6_isRule 52 = .ok (.iconst 0, 1) := by decide +kernel
theorem dX6_isRule_53 : decode cX6_isRule 53 = .ok (.ireturn, 1) := by decide +kernel
theorem dX6_isLevel_0 : decode cX6_isLevel 0 = .ok (.iload_n 0, 1) := by decide +kernel
theorem dX6_isLevel_1 : decode cX6_isLevel 1 = .ok (.iconst 0, 1) := by decide +kernel
theorem dX6_isLevel_2 : decode cX6_isLevel 2 = .ok (.iconst 2, 1) := by decide +kernel
theorem dX6_isLevel_3 : decode cX6_isLevel 3 = .ok (.invokestatic 145, 3) := by decide +kernel
theorem dX6_isLevel_6 : decode cX6_isLevel 6 = .ok (.ireturn, 1) := by decide +kernel
theorem dX6_within_0 : decode cX6_within 0 = .ok (.iload_n 0, 1) := by decide +kernel
theorem dX6_within_1 : decode cX6_within 1 = .ok (.iload_n 1, 1) := by decide +kernel
theorem dX6_within_2 : decode cX6_within 2 = .ok (.if_icmp .lt 12, 3) := by decide +kernel
theorem dX6_within_5 : decode cX6_within 5 = .ok (.iload_n 0, 1) := by decide +kernel
theorem dX6_within_6 : decode cX6_within 6 = .ok (.iload_n 2, 1) := by decide +kernel
theorem dX6_within_7 : decode cX6_within 7 = .ok (.if_icmp .gt 7, 3) := by decide +kernel
theorem dX6_within_10 : decode cX6_within 10 = .ok (.iconst 1, 1) := by decide +kernel
theorem dX6_within_11 : decode cX6_within 11 = .ok (.goto 4, 3) := by decide +kernel
theorem dX6_within_14 : decode cX6_within 14 = .ok (.iconst 0, 1) := by decide +kernel
theorem dX6_within_15 : decode cX6_within 15 = .ok (.ireturn, 1) := by decide +kernel
theorem dX6_oneIf_0 : decode cX6_oneIf 0 = .ok (.iload_n 0, 1) := by decide +kernel
theorem dX6_oneIf_1 : decode cX6_oneIf 1 = .ok (.ifCond .eq 7, 3) := by decide +kernel
theorem dX6_oneIf_4 : decode cX6_oneIf 4 = .ok (.iconst 1, 1) := by decide +kernel
theorem dX6_oneIf_5 : decode cX6_oneIf 5 = .ok (.goto 4, 3) := by decide +kernel
theorem dX6_oneIf_8 : decode cX6_oneIf 8 = .ok (.iconst 0, 1) := by decide +kernel
theorem dX6_oneIf_9 : decode cX6_oneIf 9 = .ok (.ireturn, 1) := by decide +kernel
theorem dX7_init_0 : decode cX7_init 0 = .ok (.aload_n 0, 1) := by decide +kernel
theorem dX7_init_1 : decode cX7_init 1 = .ok (.invokespecial 1, 3) := by decide +kernel
theorem dX7_init_4 : decode cX7_init 4 = .ok (.aload_n 0, 1) := by decide +kernel
theorem dX7_init_5 : decode cX7_init 5 = .ok (.bipush 12, 2) := by decide +kernel
theorem dX7_init_7 : decode cX7_init 7 = .ok (.newarray .int, 2) := by decide +kernel
theorem dX7_init_9 : decode cX7_init 9 = .ok (.putfield 7, 3) := by decide +kernel
theorem dX7_init_12 : decode cX7_init 12 = .ok (.aload_n 0, 1) := by decide +kernel
theorem dX7_init_13 : decode cX7_init 13 = .ok (.bipush 12, 2) := by decide +kernel
theorem dX7_init_15 : decode cX7_init 15 = .ok (.newarray .int, 2) := by decide +kernel
theorem dX7_init_17 : decode cX7_init 17 = .ok (.putfield 13, 3) := by decide +kernel
theorem dX7_init_20 : decode cX7_init 20 = .ok (.aload_n 0, 1) := by decide +kernel
theorem dX7_init_21 : decode cX7_init 21 = .ok (.bipush 12, 2) := by decide +kernel
theorem dX7_init_23 : decode cX7_init 23 = .ok (.newarray .int, 2) := by decide +kernel
theorem dX7_init_25 : decode cX7_init 25 = .ok (.putfield 16, 3) := by decide +kernel
theorem dX7_init_28 : decode cX7_init 28 = .ok (.aload_n 0, 1) := by decide +kernel
theorem dX7_init_29 : decode cX7_init 29 = .ok (.bipush 12, 2) := by decide +kernel
end
section
theorem dX7_init_31 : decode cX7_init 31 = .ok (.newarray .int, 2) := by decide +kernel
theorem dX7_init_33 : decode cX7_init 33 = .ok (.putfield 19, 3) := by decide +kernel
theorem dX7_init_36 : decode cX7_init 36 = .ok (.aload_n 0, 1) := by decide +kernel
theorem dX7_init_37 : decode cX7_init 37 = .ok (.bipush 12, 2) := by decide +kernel
theorem dX7_init_39 : decode cX7_init 39 = .ok (.newarray .int, 2) := by decide +kernel
theorem dX7_init_41 : decode cX7_init 41 = .ok (.putfield 22, 3) := by decide +kernel
theorem dX7_init_44 : decode cX7_init 44 = .ok (.aload_n 0, 1) := by decide +kernel
theorem dX7_init_45 : decode cX7_init 45 = .ok (.iconst 1, 1) := by decide +kernel
theorem dX7_init_46 : decode cX7_init 46 = .ok (.putfield 25, 3) := by decide +kernel
theorem dX7_init_49 : decode cX7_init 49 = .ok (.aload_n 0, 1) := by decide +kernel
theorem dX7_init_50 : decode cX7_init 50 = .ok (.sipush 640, 3) := by decide +kernel
theorem dX7_init_53 : decode cX7_init 53 = .ok (.newarray .int, 2) := by decide +kernel
theorem dX7_init_55 : decode cX7_init 55 = .ok (.putfield 29, 3) := by decide +kernel
theorem dX7_init_58 : decode cX7_init 58 = .ok (.aload_n 0, 1) := by decide +kernel
theorem dX7_init_59 : decode cX7_init 59 = .ok (.bipush 48, 2) := by decide +kernel
theorem dX7_init_61 : decode cX7_init 61 = .ok (.newarray .long, 2) := by decide +kernel
theorem dX7_init_63 : decode cX7_init 63 = .ok (.putfield 32, 3) := by decide +kernel
theorem dX7_init_66 : decode cX7_init 66 = .ok (.aload_n 0, 1) := by decide +kernel
theorem dX7_init_67 : decode cX7_init 67 = .ok (.bipush 48, 2) := by decide +kernel
theorem dX7_init_69 : decode cX7_init 69 = .ok (.newarray .boolean, 2) := by decide +kernel
theorem dX7_init_71 : decode cX7_init 71 = .ok (.putfield 36, 3) := by decide +kernel
theorem dX7_init_74 : decode cX7_init 74 = .ok (.aload_n 0, 1) := by decide +kernel
theorem dX7_init_75 : decode cX7_init 75 = .ok (.iconst 4, 1) := by decide +kernel
theorem dX7_init_76 : decode cX7_init 76 = .ok (.newarray .int, 2) := by decide +kernel
theorem dX7_init_78 : decode cX7_init 78 = .ok (.putfield 40, 3) := by decide +kernel
theorem dX7_init_81 : decode cX7_init 81 = .ok (.aload_n 0, 1) := by decide +kernel
theorem dX7_init_82 : decode cX7_init 82 = .ok (.iconst 4, 1) := by decide +kernel
theorem dX7_init_83 : decode cX7_init 83 = .ok (.newarray .int, 2) := by decide +kernel
theorem dX7_init_85 : decode cX7_init 85 = .ok (.putfield 43, 3) := by decide +kernel
theorem dX7_init_88 : decode cX7_init 88 = .ok (.aload_n 0, 1) := by decide +kernel
theorem dX7_init_89 : decode cX7_init 89 = .ok (.iconst 4, 1) := by decide +kernel
theorem dX7_init_90 : decode cX7_init 90 = .ok (.newarray .int, 2) := by decide +kernel
theorem dX7_init_92 : decode cX7_init 92 = .ok (.putfield 46, 3) := by decide +kernel
theorem dX7_init_95 : decode cX7_init 95 = .ok (.aload_n 0, 1) := by decide +kernel
theorem dX7_init_96 : decode cX7_init 96 = .ok (.iconst 4, 1) := by decide +kernel
theorem dX7_init_97 : decode cX7_init 97 = .ok (.newarray .boolean, 2) := by decide +kernel
theorem dX7_init_99 : decode cX7_init 99 = .ok (.putfield 49, 3) := by decide +kernel
theorem dX7_init_102 : decode cX7_init 102 = .ok (.aload_n 0, 1) := by decide +kernel
theorem dX7_init_103 : decode cX7_init 103 = .ok (.iconst 4, 1) := by decide +kernel
theorem dX7_init_104 : decode cX7_init 104 = .ok (.newarray .int, 2) := by decide +kernel
theorem dX7_init_106 : decode cX7_init 106 = .ok (.putfield 52, 3) := by decide +kernel
theorem dX7_init_109 : decode cX7_init 109 = .ok (.aload_n 0, 1) := by decide +kernel
theorem dX7_init_110 : decode cX7_init 110 = .ok (.iconst 4, 1) := by decide +kernel
theorem dX7_init_111 : decode cX7_init 111 = .ok (.newarray .int, 2) := by decide +kernel
theorem dX7_init_113 : decode cX7_init 113 = .ok (.putfield 55, 3) := by decide +kernel
theorem dX7_init_116 : decode cX7_init 116 = .ok (.aload_n 0, 1) := by decide +kernel
theorem dX7_init_117 : decode cX7_init 117 = .ok (.sipush 240, 3) := by decide +kernel
theorem dX7_init_120 : decode cX7_init 120 = .ok (.newarray .int, 2) := by decide +kernel
theorem dX7_init_122 : decode cX7_init 122 = .ok (.putfield 58, 3) := by decide +kernel
theorem dX7_init_125 : decode cX7_init 125 = .ok (.aload_n 0, 1) := by decide +kernel
theorem dX7_init_126 : decode cX7_init 126 = .ok (.sipush 240, 3) := by decide +kernel
theorem dX7_init_129 : decode cX7_init 129 = .ok (.newarray .int, 2) := by decide +kernel
theorem dX7_init_131 : decode cX7_init 131 = .ok (.putfield 61, 3) := by decide +kernel
theorem dX7_init_134 : decode cX7_init 134 = .ok (.aload_n 0, 1) := by decide +kernel
theorem dX7_init_135 : decode cX7_init 135 = .ok (.sipush 240, 3) := by decide +kernel
theorem dX7_init_138 : decode cX7_init 138 = .ok (.newarray .int, 2) := by decide +kernel
theorem dX7_init_140 : decode cX7_init 140 = .ok (.putfield 64, 3) := by decide +kernel
theorem dX7_init_143 : decode cX7_init 143 = .ok (.aload_n 0, 1) := by decide +kernel
theorem dX7_init_144 : decode cX7_init 144 = .ok (.sipush 2880, 3) := by decide +kernel
theorem dX7_init_147 : decode cX7_init 147 = .ok (.newarray .long, 2) := by decide +kernel
theorem dX7_init_149 : decode cX7_init 149 = .ok (.putfield 67, 3) := by decide +kernel
theorem dX7_init_152 : decode cX7_init 152 = .ok (.aload_n 0, 1) := by decide +kernel
theorem dX7_init_153 : decode cX7_init 153 = .ok (.bipush 60, 2) := by decide +kernel
theorem dX7_init_155 : decode cX7_init 155 = .ok (.newarray .long, 2) := by decide +kernel
theorem dX7_init_157 : decode cX7_init 157 = .ok (.putfield 70, 3) := by decide +kernel
theorem dX7_init_160 : decode cX7_init 160 = .ok (.aload_n 0, 1) := by decide +kernel
theorem dX7_init_161 : decode cX7_init 161 = .ok (.sipush 3200, 3) := by decide +kernel
theorem dX7_init_164 : decode cX7_init 164 = .ok (.newarray .int, 2) := by decide +kernel
theorem dX7_init_166 : decode cX7_init 166 = .ok (.putfield 73, 3) := by decide +kernel
theorem dX7_init_169 : decode cX7_init 169 = .ok (.aload_n 0, 1) := by decide +kernel
theorem dX7_init_170 : decode cX7_init 170 = .ok (.bipush 20, 2) := by decide +kernel
theorem dX7_init_172 : decode cX7_init 172 = .ok (.newarray .int, 2) := by decide +kernel
theorem dX7_init_174 : decode cX7_init 174 = .ok (.putfield 76, 3) := by decide +kernel
theorem dX7_init_177 : decode cX7_init 177 = .ok (.aload_n 0, 1) := by decide +kernel
theorem dX7_init_178 : decode cX7_init 178 = .ok (.sipush 160, 3) := by decide +kernel
theorem dX7_init_181 : decode cX7_init 181 = .ok (.newarray .int, 2) := by decide +kernel
theorem dX7_init_183 : decode cX7_init 183 = .ok (.putfield 79, 3) := by decide +kernel
theorem dX7_init_186 : decode cX7_init 186 = .ok (.aload_n 0, 1) := by decide +kernel
theorem dX7_init_187 : decode cX7_init 187 = .ok (.bipush 12, 2) := by decide +kernel
theorem dX7_init_189 : decode cX7_init 189 = .ok (.newarray .long, 2) := by decide +kernel
theorem dX7_init_191 : decode cX7_init 191 = .ok (.putfield 82, 3) := by decide +kernel
theorem dX7_init_194 : decode cX7_init 194 = .ok (.iconst 0, 1) := by decide +kernel
theorem dX7_init_195 : decode cX7_init 195 = .ok (.istore_n 1, 1) := by decide +kernel
theorem dX7_init_196 : decode cX7_init 196 = .ok (.iload_n 1, 1) := by decide +kernel
theorem dX7_init_197 : decode cX7_init 197 = .ok (.iconst 4, 1) := by decide +kernel
theorem dX7_init_198 : decode cX7_init 198 = .ok (.if_icmp .ge 16, 3) := by decide +kernel
theorem dX7_init_201 : decode cX7_init 201 = .ok (.aload_n 0, 1) := by decide +kernel
theorem dX7_init_202 : decode cX7_init 202 = .ok (.getfield 46, 3) := by decide +kernel
theorem dX7_init_205 : decode cX7_init 205 = .ok (.iload_n 1, 1) := by decide +kernel
theorem dX7_init_206 : decode cX7_init 206 = .ok (.iconst (-1), 1) := by decide +kernel
theorem dX7_init_207 : decode cX7_init 207 = .ok (.iastore, 1) := by decide +kernel
theorem dX7_init_208 : decode cX7_init 208 = .ok (.iinc 1 1, 3) := by decide +kernel
theorem dX7_init_211 : decode cX7_init 211 = .ok (.goto (-15), 3) := by decide +kernel
theorem dX7_init_214 : decode cX7_init 214 = .ok (.return_, 1) := by decide +kernel
theorem dX7_in_0 : decode cX7_in 0 = .ok (.iload_n 0, 1) := by decide +kernel
theorem dX7_in_1 : decode cX7_in 1 = .ok (.iload_n 1, 1) := by decide +kernel
theorem dX7_in_2 : decode cX7_in 2 = .ok (.if_icmp .lt 12, 3) := by decide +kernel
theorem dX7_in_5 : decode cX7_in 5 = .ok (.iload_n 0, 1) := by decide +kernel
theorem dX7_in_6 : decode cX7_in 6 = .ok (.iload_n 2, 1) := by decide +kernel
theorem dX7_in_7 : decode cX7_in 7 = .ok (.if_icmp .gt 7, 3) := by decide +kernel
theorem dX7_in_10 : decode cX7_in 10 = .ok (.iconst 1, 1) := by decide +kernel
theorem dX7_in_11 : decode cX7_in 11 = .ok (.goto 4, 3) := by decide +kernel
theorem dX7_in_14 : decode cX7_in 14 = .ok (.iconst 0, 1) := by decide +kernel
theorem dX7_in_15 : decode cX7_in 15 = .ok (.ireturn, 1) := by decide +kernel
theorem dX7_isPlan_0 : decode cX7_isPlan 0 = .ok (.iload_n 1, 1) := by decide +kernel
theorem dX7_isPlan_1 : decode cX7_isPlan 1 = .ok (.iconst 0, 1) := by decide +kernel
theorem dX7_isPlan_2 : decode cX7_isPlan 2 = .ok (.aload_n 0, 1) := by decide +kernel
theorem dX7_isPlan_3 : decode cX7_isPlan 3 = .ok (.getfield 25, 3) := by decide +kernel
theorem dX7_isPlan_6 : decode cX7_isPlan 6 = .ok (.iconst 1, 1) := by decide +kernel
theorem dX7_isPlan_7 : decode cX7_isPlan 7 = .ok (.isub, 1) := by decide +kernel
theorem dX7_isPlan_8 : decode cX7_isPlan 8 = .ok (.invokestatic 85, 3) := by decide +kernel
theorem dX7_isPlan_11 : decode cX7_isPlan 11 = .ok (.ireturn, 1) := by decide +kernel
theorem dX7_at_0 : decode cX7_at 0 = .ok (.sipush 160, 3) := by decide +kernel
theorem dX7_at_3 : decode cX7_at 3 = .ok (.iload_n 1, 1) := by decide +kernel
theorem dX7_at_4 : decode cX7_at 4 = .ok (.imul, 1) := by decide +kernel
theorem dX7_at_5 : decode cX7_at 5 = .ok (.iconst 4, 1) := by decide +kernel
theorem dX7_at_6 : decode cX7_at 6 = .ok (.iload_n 2, 1) := by decide +kernel
theorem dX7_at_7 : decode cX7_at 7 = .ok (.imul, 1) := by decide +kernel
theorem dX7_at_8 : decode cX7_at 8 = .ok (.iadd, 1) := by decide +kernel
theorem dX7_at_9 : decode cX7_at 9 = .ok (.iload_n 3, 1) := by decide +kernel
theorem dX7_at_10 : decode cX7_at 10 = .ok (.iadd, 1) := by decide +kernel
theorem dX7_at_11 : decode cX7_at 11 = .ok (.ireturn, 1) := by decide +kernel
theorem dX7_findEnds_0 : decode cX7_findEnds 0 = .ok (.iconst 0, 1) := by decide +kernel
theorem dX7_findEnds_1 : decode cX7_findEnds 1 = .ok (.istore_n 2, 1) := by decide +kernel
theorem dX7_findEnds_2 : decode cX7_findEnds 2 = .ok (.iload_n 2, 1) := by decide +kernel
theorem dX7_findEnds_3 : decode cX7_findEnds 3 = .ok (.aload_n 0, 1) := by decide +kernel
theorem dX7_findEnds_4 : decode cX7_findEnds 4 = .ok (.getfield 89, 3) := by decide +kernel
theorem dX7_findEnds_7 : decode cX7_findEnds 7 = .ok (.if_icmp .ge 66, 3) := by decide +kernel
theorem dX7_findEnds_10 : decode cX7_findEnds 10 = .ok (.iconst 0, 1) := by decide +kernel
theorem dX7_findEnds_11 : decode cX7_findEnds 11 = .ok (.istore_n 3, 1) := by decide +kernel
theorem dX7_findEnds_12 : decode cX7_findEnds 12 = .ok (.iload_n 2, 1) := by decide +kernel
theorem dX7_findEnds_13 : decode cX7_findEnds 13 = .ok (.istore 4, 2) := by decide +kernel
theorem dX7_findEnds_15 : decode cX7_findEnds 15 = .ok (.iload 4, 2) := by decide +kernel
theorem dX7_findEnds_17 : decode cX7_findEnds 17 = .ok (.ifCond .lt 37, 3) := by decide +kernel
theorem dX7_findEnds_20 : decode cX7_findEnds 20 = .ok (.iload_n 3, 1) := by decide +kernel
theorem dX7_findEnds_21 : decode cX7_findEnds 21 = .ok (.aload_n 0, 1) := by decide +kernel
theorem dX7_findEnds_22 : decode cX7_findEnds 22 = .ok (.getfield 29, 3) := by decide +kernel
theorem dX7_findEnds_25 : decode cX7_findEnds 25 = .ok (.aload_n 0, 1) := by decide +kernel
theorem dX7_findEnds_26 : decode cX7_findEnds 26 = .ok (.iload_n 1, 1) := by decide +kernel
theorem dX7_findEnds_27 : decode cX7_findEnds 27 = .ok (.iload 4, 2) := by decide +kernel
theorem dX7_findEnds_29 : decode cX7_findEnds 29 = .ok (.iconst 0, 1) := by decide +kernel
theorem dX7_findEnds_30 : decode cX7_findEnds 30 = .ok (.invokevirtual 92, 3) := by decide +kernel
theorem dX7_findEnds_33 : decode cX7_findEnds 33 = .ok (.iaload, 1) := by decide +kernel
theorem dX7_findEnds_34 : decode cX7_findEnds 34 = .ok (.iadd, 1) := by decide +kernel
theorem dX7_findEnds_35 : decode cX7_findEnds 35 = .ok (.istore_n 3, 1) := by decide +kernel
theorem dX7_findEnds_36 : decode cX7_findEnds 36 = .ok (.aload_n 0, 1) := by decide +kernel
theorem dX7_findEnds_37 : decode cX7_findEnds 37 = .ok (.getfield 29, 3) := by decide +kernel
theorem dX7_findEnds_40 : decode cX7_findEnds 40 = .ok (.aload_n 0, 1) := by decide +kernel
theorem dX7_findEnds_41 : decode cX7_findEnds 41 = .ok (.iload_n 1, 1) := by decide +kernel
theorem dX7_findEnds_42 : decode cX7_findEnds 42 = .ok (.iload 4, 2) := by decide +kernel
theorem dX7_findEnds_44 : decode cX7_findEnds 44 = .ok (.iconst 2, 1) := by decide +kernel
theorem dX7_findEnds_45 : decode cX7_findEnds 45 = .ok (.invokevirtual 92, 3) := by decide +kernel
theorem dX7_findEnds_48 : decode cX7_findEnds 48 = .ok (.iaload, 1) := by decide +kernel
theorem dX7_findEnds_49 : decode cX7_findEnds 49 = .ok (.istore 4, 2) := by decide +kernel
theorem dX7_findEnds_51 : decode cX7_findEnds 51 = .ok (.goto (-36), 3) := by decide +kernel
theorem dX7_findEnds_54 : decode cX7_findEnds 54 = .ok (.aload_n 0, 1) := by decide +kernel
theorem dX7_findEnds_55 : decode cX7_findEnds 55 = .ok (.getfield 29, 3) := by decide +kernel
theorem dX7_findEnds_58 : decode cX7_findEnds 58 = .ok (.aload_n 0, 1) := by decide +kernel
theorem dX7_findEnds_59 : decode cX7_findEnds 59 = .ok (.iload_n 1, 1) := by decide +kernel
theorem dX7_findEnds_60 : decode cX7_findEnds 60 = .ok (.iload_n 2, 1) := by decide +kernel
theorem dX7_findEnds_61 : decode cX7_findEnds 61 = .ok (.iconst 3, 1) := by decide +kernel
theorem dX7_findEnds_62 : decode cX7_findEnds 62 = .ok (.invokevirtual 92, 3) := by decide +kernel
theorem dX7_findEnds_65 : decode cX7_findEnds 65 = .ok (.iload_n 3, 1) := by decide +kernel
theorem dX7_findEnds_66 : decode cX7_findEnds 66 = .ok (.iastore, 1) := by decide +kernel
theorem dX7_findEnds_67 : decode cX7_findEnds 67 = .ok (.iinc 2 1, 3) := by decide +kernel
theorem dX7_findEnds_70 : decode cX7_findEnds 70 = .ok (.goto (-68), 3) := by decide +kernel
theorem dX7_findEnds_73 : decode cX7_findEnds 73 = .ok (.return_, 1) := by decide +kernel
theorem dX7_worthOf_0 : decode cX7_worthOf 0 = .ok (.lconst 0, 1) := by decide +kernel
theorem dX7_worthOf_1 : decode cX7_worthOf 1 = .ok (.lstore_n 3, 1) := by decide +kernel
theorem dX7_worthOf_2 : decode cX7_worthOf 2 = .ok (.lconst 0, 1) := by decide +kernel
theorem dX7_worthOf_3 : decode cX7_worthOf 3 = .ok (.lstore 5, 2) := by decide +kernel
theorem dX7_worthOf_5 : decode cX7_worthOf 5 = .ok (.aload_n 0, 1) := by decide +kernel
theorem dX7_worthOf_6 : decode cX7_worthOf 6 = .ok (.getfield 16, 3) := by decide +kernel
theorem dX7_worthOf_9 : decode cX7_worthOf 9 = .ok (.iload_n 2, 1) := by decide +kernel
theorem dX7_worthOf_10 : decode cX7_worthOf 10 = .ok (.iaload, 1) := by decide +kernel
theorem dX7_worthOf_11 : decode cX7_worthOf 11 = .ok (.istore 7, 2) := by decide +kernel
theorem dX7_worthOf_13 : decode cX7_worthOf 13 = .ok (.aload_n 0, 1) := by decide +kernel
theorem dX7_worthOf_14 : decode cX7_worthOf 14 = .ok (.getfield 13, 3) := by decide +kernel
theorem dX7_worthOf_17 : decode cX7_worthOf 17 = .ok (.iload_n 2, 1) := by decide +kernel
theorem dX7_worthOf_18 : decode cX7_worthOf 18 = .ok (.iaload, 1) := by decide +kernel
theorem dX7_worthOf_19 : decode cX7_worthOf 19 = .ok (.istore 8, 2) := by decide +kernel
theorem dX7_worthOf_21 : decode cX7_worthOf 21 = .ok (.iconst 0, 1) := by decide +kernel
theorem dX7_worthOf_22 : decode cX7_worthOf 22 = .ok (.istore 9, 2) := by decide +kernel
theorem dX7_worthOf_24 : decode cX7_worthOf 24 = .ok (.iload 9, 2) := by decide +kernel
theorem dX7_worthOf_26 : decode cX7_worthOf 26 = .ok (.aload_n 0, 1) := by decide +kernel
theorem dX7_worthOf_27 : decode cX7_worthOf 27 = .ok (.getfield 89, 3) := by decide +kernel
theorem dX7_worthOf_30 : decode cX7_worthOf 30 = .ok (.if_icmp .ge 285, 3) := by decide +kernel
theorem dX7_worthOf_33 : decode cX7_worthOf 33 = .ok (.aload_n 0, 1) := by decide +kernel
theorem dX7_worthOf_34 : decode cX7_worthOf 34 = .ok (.getfield 29, 3) := by decide +kernel
theorem dX7_worthOf_37 : decode cX7_worthOf 37 = .ok (.aload_n 0, 1) := by decide +kernel
theorem dX7_worthOf_38 : decode cX7_worthOf 38 = .ok (.iload_n 1, 1) := by decide +kernel
theorem dX7_worthOf_39 : decode cX7_worthOf 39 = .ok (.iload 9, 2) := by decide +kernel
theorem dX7_worthOf_41 : decode cX7_worthOf 41 = .ok (.iload 8, 2) := by decide +kernel
theorem dX7_worthOf_43 : decode cX7_worthOf 43 = .ok (.invokevirtual 92, 3) := by decide +kernel
theorem dX7_worthOf_46 : decode cX7_worthOf 46 = .ok (.iaload, 1) := by decide +kernel
theorem dX7_worthOf_47 : decode cX7_worthOf 47 = .ok (.istore 10, 2) := by decide +kernel
theorem dX7_worthOf_49 : decode cX7_worthOf 49 = .ok (.lload 5, 2) := by decide +kernel
theorem dX7_worthOf_51 : decode cX7_worthOf 51 = .ok (.iload 10, 2) := by decide +kernel
theorem dX7_worthOf_53 : decode cX7_worthOf 53 = .ok (.i2l, 1) := by decide +kernel
theorem dX7_worthOf_54 : decode cX7_worthOf 54 = .ok (.ladd, 1) := by decide +kernel
theorem dX7_worthOf_55 : decode cX7_worthOf 55 = .ok (.lstore 5, 2) := by decide +kernel
theorem dX7_worthOf_57 : decode cX7_worthOf 57 = .ok (.iconst 0, 1) := by decide +kernel
theorem dX7_worthOf_58 : decode cX7_worthOf 58 = .ok (.istore 11, 2) := by decide +kernel
theorem dX7_worthOf_60 : decode cX7_worthOf 60 = .ok (.iconst 1, 1) := by decide +kernel
theorem dX7_worthOf_61 : decode cX7_worthOf 61 = .ok (.istore 12, 2) := by decide +kernel
theorem dX7_worthOf_63 : decode cX7_worthOf 63 = .ok (.iconst 0, 1) := by decide +kernel
theorem dX7_worthOf_64 : decode cX7_worthOf 64 = .ok (.istore 13, 2) := by decide +kernel
theorem dX7_worthOf_66 : decode cX7_worthOf 66 = .ok (.iload 13, 2) := by decide +kernel
theorem dX7_worthOf_68 : decode cX7_worthOf 68 = .ok (.aload_n 0, 1) := by decide +kernel
theorem dX7_worthOf_69 : decode cX7_worthOf 69 = .ok (.getfield 89, 3) := by decide +kernel
theorem dX7_worthOf_72 : decode cX7_worthOf 72 = .ok (.if_icmp .ge 102, 3) := by decide +kernel
theorem dX7_worthOf_75 : decode cX7_worthOf 75 = .ok (.aload_n 0, 1) := by decide +kernel
theorem dX7_worthOf_76 : decode cX7_worthOf 76 = .ok (.getfield 29, 3) := by decide +kernel
theorem dX7_worthOf_79 : decode cX7_worthOf 79 = .ok (.aload_n 0, 1) := by decide +kernel
theorem dX7_worthOf_80 : decode cX7_worthOf 80 = .ok (.iload_n 1, 1) := by decide +kernel
theorem dX7_worthOf_81 : decode cX7_worthOf 81 = .ok (.iload 13, 2) := by decide +kernel
theorem dX7_worthOf_83 : decode cX7_worthOf 83 = .ok (.iload 8, 2) := by decide +kernel
theorem dX7_worthOf_85 : decode cX7_worthOf 85 = .ok (.invokevirtual 92, 3) := by decide +kernel
theorem dX7_worthOf_88 : decode cX7_worthOf 88 = .ok (.iaload, 1) := by decide +kernel
theorem dX7_worthOf_89 : decode cX7_worthOf 89 = .ok (.iload 10, 2) := by decide +kernel
theorem dX7_worthOf_91 : decode cX7_worthOf 91 = .ok (.if_icmp .ne 7, 3) := by decide +kernel
theorem dX7_worthOf_94 : decode cX7_worthOf 94 = .ok (.iconst 1, 1) := by decide +kernel
theorem dX7_worthOf_95 : decode cX7_worthOf 95 = .ok (.goto 4, 3) := by decide +kernel
theorem dX7_worthOf_98 : decode cX7_worthOf 98 = .ok (.iconst 0, 1) := by decide +kernel
theorem dX7_worthOf_99 : decode cX7_worthOf 99 = .ok (.istore 14, 2) := by decide +kernel
theorem dX7_worthOf_101 : decode cX7_worthOf 101 = .ok (.iload 11, 2) := by decide +kernel
theorem dX7_worthOf_103 : decode cX7_worthOf 103 = .ok (.iload 14, 2) := by decide +kernel
theorem dX7_worthOf_105 : decode cX7_worthOf 105 = .ok (.ifCond .eq 7, 3) := by decide +kernel
theorem dX7_worthOf_108 : decode cX7_worthOf 108 = .ok (.iconst 1, 1) := by decide +kernel
theorem dX7_worthOf_109 : decode cX7_worthOf 109 = .ok (.goto 4, 3) := by decide +kernel
theorem dX7_worthOf_112 : decode cX7_worthOf 112 = .ok (.iconst 0, 1) := by decide +kernel
theorem dX7_worthOf_113 : decode cX7_worthOf 113 = .ok (.iadd, 1) := by decide +kernel
theorem dX7_worthOf_114 : decode cX7_worthOf 114 = .ok (.istore 11, 2) := by decide +kernel
theorem dX7_worthOf_116 : decode cX7_worthOf 116 = .ok (.iload 12, 2) := by decide +kernel
theorem dX7_worthOf_118 : decode cX7_worthOf 118 = .ok (.iload 14, 2) := by decide +kernel
theorem dX7_worthOf_120 : decode cX7_worthOf 120 = .ok (.ifCond .eq 10, 3) := by decide +kernel
theorem dX7_worthOf_123 : decode cX7_worthOf 123 = .ok (.iload 13, 2) := by decide +kernel
theorem dX7_worthOf_125 : decode cX7_worthOf 125 = .ok (.iload 9, 2) := by decide +kernel
theorem dX7_worthOf_127 : decode cX7_worthOf 127 = .ok (.if_icmp .lt 7, 3) := by decide +kernel
theorem dX7_worthOf_130 : decode cX7_worthOf 130 = .ok (.iconst 1, 1) := by decide +kernel
theorem dX7_worthOf_131 : decode cX7_worthOf 131 = .ok (.goto 4, 3) := by decide +kernel
theorem dX7_worthOf_134 : decode cX7_worthOf 134 = .ok (.iconst 0, 1) := by decide +kernel
theorem dX7_worthOf_135 : decode cX7_worthOf 135 = .ok (.iand, 1) := by decide +kernel
theorem dX7_worthOf_136 : decode cX7_worthOf 136 = .ok (.istore 12, 2) := by decide +kernel
theorem dX7_worthOf_138 : decode cX7_worthOf 138 = .ok (.lload_n 3, 1) := by decide +kernel
theorem dX7_worthOf_139 : decode cX7_worthOf 139 = .ok (.aload_n 0, 1) := by decide +kernel
theorem dX7_worthOf_140 : decode cX7_worthOf 140 = .ok (.getfield 7, 3) := by decide +kernel
theorem dX7_worthOf_143 : decode cX7_worthOf 143 = .ok (.iload_n 2, 1) := by decide +kernel
theorem dX7_worthOf_144 : decode cX7_worthOf 144 = .ok (.iaload, 1) := by decide +kernel
theorem dX7_worthOf_145 : decode cX7_worthOf 145 = .ok (.iconst 3, 1) := by decide +kernel
theorem dX7_worthOf_146 : decode cX7_worthOf 146 = .ok (.if_icmp .ne 19, 3) := by decide +kernel
theorem dX7_worthOf_149 : decode cX7_worthOf 149 = .ok (.iload 14, 2) := by decide +kernel
theorem dX7_worthOf_151 : decode cX7_worthOf 151 = .ok (.ifCond .eq 14, 3) := by decide +kernel
theorem dX7_worthOf_154 : decode cX7_worthOf 154 = .ok (.iload 13, 2) := by decide +kernel
theorem dX7_worthOf_156 : decode cX7_worthOf 156 = .ok (.iload 9, 2) := by decide +kernel
theorem dX7_worthOf_158 : decode cX7_worthOf 158 = .ok (.if_icmp .le 7, 3) := by decide +kernel
theorem dX7_worthOf_161 : decode cX7_worthOf 161 = .ok (.lconst 1, 1) := by decide +kernel
theorem dX7_worthOf_162 : decode cX7_worthOf 162 = .ok (.goto 4, 3) := by decide +kernel
theorem dX7_worthOf_165 : decode cX7_worthOf 165 = .ok (.lconst 0, 1) := by decide +kernel
theorem dX7_worthOf_166 : decode cX7_worthOf 166 = .ok (.ladd, 1) := by decide +kernel
theorem dX7_worthOf_167 : decode cX7_worthOf 167 = .ok (.lstore_n 3, 1) := by decide +kernel
theorem dX7_worthOf_168 : decode cX7_worthOf 168 = .ok (.iinc 13 1, 3) := by decide +kernel
theorem dX7_worthOf_171 : decode cX7_worthOf 171 = .ok (.goto (-105), 3) := by decide +kernel
theorem dX7_worthOf_174 : decode cX7_worthOf 174 = .ok (.iload 7, 2) := by decide +kernel
theorem dX7_worthOf_176 : decode cX7_worthOf 176 = .ok (.ifCond .ge 7, 3) := by decide +kernel
theorem dX7_worthOf_179 : decode cX7_worthOf 179 = .ok (.iconst 0, 1) := by decide +kernel
theorem dX7_worthOf_180 : decode cX7_worthOf 180 = .ok (.goto 5, 3) := by decide +kernel
theorem dX7_worthOf_183 : decode cX7_worthOf 183 = .ok (.iload 7, 2) := by decide +kernel
theorem dX7_worthOf_185 : decode cX7_worthOf 185 = .ok (.istore 13, 2) := by decide +kernel
theorem dX7_worthOf_187 : decode cX7_worthOf 187 = .ok (.aload_n 0, 1) := by decide +kernel
theorem dX7_worthOf_188 : decode cX7_worthOf 188 = .ok (.getfield 29, 3) := by decide +kernel
theorem dX7_worthOf_191 : decode cX7_worthOf 191 = .ok (.aload_n 0, 1) := by decide +kernel
theorem dX7_worthOf_192 : decode cX7_worthOf 192 = .ok (.iload_n 1, 1) := by decide +kernel
theorem dX7_worthOf_193 : decode cX7_worthOf 193 = .ok (.iload 9, 2) := by decide +kernel
theorem dX7_worthOf_195 : decode cX7_worthOf 195 = .ok (.iconst 2, 1) := by decide +kernel
theorem dX7_worthOf_196 : decode cX7_worthOf 196 = .ok (.invokevirtual 92, 3) := by decide +kernel
theorem dX7_worthOf_199 : decode cX7_worthOf 199 = .ok (.iaload, 1) := by decide +kernel
theorem dX7_worthOf_200 : decode cX7_worthOf 200 = .ok (.istore 14, 2) := by decide +kernel
theorem dX7_worthOf_202 : decode cX7_worthOf 202 = .ok (.lload_n 3, 1) := by decide +kernel
theorem dX7_worthOf_203 : decode cX7_worthOf 203 = .ok (.aload_n 0, 1) := by decide +kernel
theorem dX7_worthOf_204 : decode cX7_worthOf 204 = .ok (.getfield 7, 3) := by decide +kernel
theorem dX7_worthOf_207 : decode cX7_worthOf 207 = .ok (.iload_n 2, 1) := by decide +kernel
theorem dX7_worthOf_208 : decode cX7_worthOf 208 = .ok (.iaload, 1) := by decide +kernel
theorem dX7_worthOf_209 : decode cX7_worthOf 209 = .ok (.ifCond .ne 20, 3) := by decide +kernel
theorem dX7_worthOf_212 : decode cX7_worthOf 212 = .ok (.iload 10, 2) := by decide +kernel
theorem dX7_worthOf_214 : decode cX7_worthOf 214 = .ok (.iload 7, 2) := by decide +kernel
theorem dX7_worthOf_216 : decode cX7_worthOf 216 = .ok (.if_icmp .le 13, 3) := by decide +kernel
theorem dX7_worthOf_219 : decode cX7_worthOf 219 = .ok (.iload 10, 2) := by decide +kernel
theorem dX7_worthOf_221 : decode cX7_worthOf 221 = .ok (.i2l, 1) := by decide +kernel
theorem dX7_worthOf_222 : decode cX7_worthOf 222 = .ok (.iload 7, 2) := by decide +kernel
theorem dX7_worthOf_224 : decode cX7_worthOf 224 = .ok (.i2l, 1) := by decide +kernel
theorem dX7_worthOf_225 : decode cX7_worthOf 225 = .ok (.lsub, 1) := by decide +kernel
theorem dX7_worthOf_226 : decode cX7_worthOf 226 = .ok (.goto 4, 3) := by decide +kernel
theorem dX7_worthOf_229 : decode cX7_worthOf 229 = .ok (.lconst 0, 1) := by decide +kernel
theorem dX7_worthOf_230 : decode cX7_worthOf 230 = .ok (.ladd, 1) := by decide +kernel
theorem dX7_worthOf_231 : decode cX7_worthOf 231 = .ok (.lstore_n 3, 1) := by decide +kernel
theorem dX7_worthOf_232 : decode cX7_worthOf 232 = .ok (.lload_n 3, 1) := by decide +kernel
theorem dX7_worthOf_233 : decode cX7_worthOf 233 = .ok (.aload_n 0, 1) := by decide +kernel
theorem dX7_worthOf_234 : decode cX7_worthOf 234 = .ok (.getfield 7, 3) := by decide +kernel
theorem dX7_worthOf_237 : decode cX7_worthOf 237 = .ok (.iload_n 2, 1) := by decide +kernel
theorem dX7_worthOf_238 : decode cX7_worthOf 238 = .ok (.iaload, 1) := by decide +kernel
theorem dX7_worthOf_239 : decode cX7_worthOf 239 = .ok (.iconst 4, 1) := by decide +kernel
theorem dX7_worthOf_240 : decode cX7_worthOf 240 = .ok (.if_icmp .ne 24, 3) := by decide +kernel
theorem dX7_worthOf_243 : decode cX7_worthOf 243 = .ok (.iload 12, 2) := by decide +kernel
theorem dX7_worthOf_245 : decode cX7_worthOf 245 = .ok (.ifCond .eq 19, 3) := by decide +kernel
theorem dX7_worthOf_248 : decode cX7_worthOf 248 = .ok (.iload 11, 2) := by decide +kernel
theorem dX7_worthOf_250 : decode cX7_worthOf 250 = .ok (.iload 13, 2) := by decide +kernel
theorem dX7_worthOf_252 : decode cX7_worthOf 252 = .ok (.if_icmp .le 12, 3) := by decide +kernel
theorem dX7_worthOf_255 : decode cX7_worthOf 255 = .ok (.iload 11, 2) := by decide +kernel
theorem dX7_worthOf_257 : decode cX7_worthOf 257 = .ok (.iload 13, 2) := by decide +kernel
theorem dX7_worthOf_259 : decode cX7_worthOf 259 = .ok (.isub, 1) := by decide +kernel
theorem dX7_worthOf_260 : decode cX7_worthOf 260 = .ok (.i2l, 1) := by decide +kernel
theorem dX7_worthOf_261 : decode cX7_worthOf 261 = .ok (.goto 4, 3) := by decide +kernel
theorem dX7_worthOf_264 : decode cX7_worthOf 264 = .ok (.lconst 0, 1) := by decide +kernel
theorem dX7_worthOf_265 : decode cX7_worthOf 265 = .ok (.ladd, 1) := by decide +kernel
theorem dX7_worthOf_266 : decode cX7_worthOf 266 = .ok (.lstore_n 3, 1) := by decide +kernel
theorem dX7_worthOf_267 : decode cX7_worthOf 267 = .ok (.lload_n 3, 1) := by decide +kernel
theorem dX7_worthOf_268 : decode cX7_worthOf 268 = .ok (.aload_n 0, 1) := by decide +kernel
theorem dX7_worthOf_269 : decode cX7_worthOf 269 = .ok (.getfield 7, 3) := by decide +kernel
theorem dX7_worthOf_272 : decode cX7_worthOf 272 = .ok (.iload_n 2, 1) := by decide +kernel
theorem dX7_worthOf_273 : decode cX7_worthOf 273 = .ok (.iaload, 1) := by decide +kernel
theorem dX7_worthOf_274 : decode cX7_worthOf 274 = .ok (.iconst 5, 1) := by decide +kernel
theorem dX7_worthOf_275 : decode cX7_worthOf 275 = .ok (.if_icmp .ne 31, 3) := by decide +kernel
theorem dX7_worthOf_278 : decode cX7_worthOf 278 = .ok (.iload 14, 2) := by decide +kernel
theorem dX7_worthOf_280 : decode cX7_worthOf 280 = .ok (.ifCond .lt 26, 3) := by decide +kernel
theorem dX7_worthOf_283 : decode cX7_worthOf 283 = .ok (.aload_n 0, 1) := by decide +kernel
theorem dX7_worthOf_284 : decode cX7_worthOf 284 = .ok (.getfield 29, 3) := by decide +kernel
theorem dX7_worthOf_287 : decode cX7_worthOf 287 = .ok (.aload_n 0, 1) := by decide +kernel
theorem dX7_worthOf_288 : decode cX7_worthOf 288 = .ok (.iload_n 1, 1) := by decide +kernel
theorem dX7_worthOf_289 : decode cX7_worthOf 289 = .ok (.iload 14, 2) := by decide +kernel
theorem dX7_worthOf_291 : decode cX7_worthOf 291 = .ok (.iload 8, 2) := by decide +kernel
theorem dX7_worthOf_293 : decode cX7_worthOf 293 = .ok (.invokevirtual 92, 3) := by decide +kernel
theorem dX7_worthOf_296 : decode cX7_worthOf 296 = .ok (.iaload, 1) := by decide +kernel
theorem dX7_worthOf_297 : decode cX7_worthOf 297 = .ok (.iload 10, 2) := by decide +kernel
theorem dX7_worthOf_299 : decode cX7_worthOf 299 = .ok (.if_icmp .le 7, 3) := by decide +kernel
theorem dX7_worthOf_302 : decode cX7_worthOf 302 = .ok (.lconst 1, 1) := by decide +kernel
theorem dX7_worthOf_303 : decode cX7_worthOf 303 = .ok (.goto 4, 3) := by decide +kernel
theorem dX7_worthOf_306 : decode cX7_worthOf 306 = .ok (.lconst 0, 1) := by decide +kernel
theorem dX7_worthOf_307 : decode cX7_worthOf 307 = .ok (.ladd, 1) := by decide +kernel
theorem dX7_worthOf_308 : decode cX7_worthOf 308 = .ok (.lstore_n 3, 1) := by decide +kernel
theorem dX7_worthOf_309 : decode cX7_worthOf 309 = .ok (.iinc 9 1, 3) := by decide +kernel
theorem dX7_worthOf_312 : decode cX7_worthOf 312 = .ok (.goto (-288), 3) := by decide +kernel
theorem dX7_worthOf_315 : decode cX7_worthOf 315 = .ok (.aload_n 0, 1) := by decide +kernel
theorem dX7_worthOf_316 : decode cX7_worthOf 316 = .ok (.getfield 7, 3) := by decide +kernel
theorem dX7_worthOf_319 : decode cX7_worthOf 319 = .ok (.iload_n 2, 1) := by decide +kernel
theorem dX7_worthOf_320 : decode cX7_worthOf 320 = .ok (.iaload, 1) := by decide +kernel
theorem dX7_worthOf_321 : decode cX7_worthOf 321 = .ok (.iconst 1, 1) := by decide +kernel
theorem dX7_worthOf_322 : decode cX7_worthOf 322 = .ok (.if_icmp .ne 26, 3) := by decide +kernel
theorem dX7_worthOf_325 : decode cX7_worthOf 325 = .ok (.lload 5, 2) := by decide +kernel
theorem dX7_worthOf_327 : decode cX7_worthOf 327 = .ok (.iload 7, 2) := by decide +kernel
theorem dX7_worthOf_329 : decode cX7_worthOf 329 = .ok (.i2l, 1) := by decide +kernel
theorem dX7_worthOf_330 : decode cX7_worthOf 330 = .ok (.lcmp, 1) := by decide +kernel
theorem dX7_worthOf_331 : decode cX7_worthOf 331 = .ok (.ifCond .le 12, 3) := by decide +kernel
theorem dX7_worthOf_334 : decode cX7_worthOf 334 = .ok (.lload 5, 2) := by decide +kernel
theorem dX7_worthOf_336 : decode cX7_worthOf 336 = .ok (.iload 7, 2) := by decide +kernel
theorem dX7_worthOf_338 : decode cX7_worthOf 338 = .ok (.i2l, 1) := by decide +kernel
theorem dX7_worthOf_339 : decode cX7_worthOf 339 = .ok (.lsub, 1) := by decide +kernel
theorem dX7_worthOf_340 : decode cX7_worthOf 340 = .ok (.goto 4, 3) := by decide +kernel
theorem dX7_worthOf_343 : decode cX7_worthOf 343 = .ok (.lconst 0, 1) := by decide +kernel
theorem dX7_worthOf_344 : decode cX7_worthOf 344 = .ok (.lstore_n 3, 1) := by decide +kernel
theorem dX7_worthOf_345 : decode cX7_worthOf 345 = .ok (.goto 38, 3) := by decide +kernel
theorem dX7_worthOf_348 : decode cX7_worthOf 348 = .ok (.aload_n 0, 1) := by decide +kernel
theorem dX7_worthOf_349 : decode cX7_worthOf 349 = .ok (.getfield 7, 3) := by decide +kernel
theorem dX7_worthOf_352 : decode cX7_worthOf 352 = .ok (.iload_n 2, 1) := by decide +kernel
theorem dX7_worthOf_353 : decode cX7_worthOf 353 = .ok (.iaload, 1) := by decide +kernel
theorem dX7_worthOf_354 : decode cX7_worthOf 354 = .ok (.iconst 2, 1) := by decide +kernel
theorem dX7_worthOf_355 : decode cX7_worthOf 355 = .ok (.if_icmp .ne 28, 3) := by decide +kernel
theorem dX7_worthOf_358 : decode cX7_worthOf 358 = .ok (.lload 5, 2) := by decide +kernel
theorem dX7_worthOf_360 : decode cX7_worthOf 360 = .ok (.iload 7, 2) := by decide +kernel
theorem dX7_worthOf_362 : decode cX7_worthOf 362 = .ok (.i2l, 1) := by decide +kernel
theorem dX7_worthOf_363 : decode cX7_worthOf 363 = .ok (.lcmp, 1) := by decide +kernel
theorem dX7_worthOf_364 : decode cX7_worthOf 364 = .ok (.ifCond .le 12, 3) := by decide +kernel
theorem dX7_worthOf_367 : decode cX7_worthOf 367 = .ok (.lload 5, 2) := by decide +kernel
theorem dX7_worthOf_369 : decode cX7_worthOf 369 = .ok (.iload 7, 2) := by decide +kernel
theorem dX7_worthOf_371 : decode cX7_worthOf 371 = .ok (.i2l, 1) := by decide +kernel
theorem dX7_worthOf_372 : decode cX7_worthOf 372 = .ok (.lsub, 1) := by decide +kernel
theorem dX7_worthOf_373 : decode cX7_worthOf 373 = .ok (.goto 9, 3) := by decide +kernel
theorem dX7_worthOf_376 : decode cX7_worthOf 376 = .ok (.iload 7, 2) := by decide +kernel
theorem dX7_worthOf_378 : decode cX7_worthOf 378 = .ok (.i2l, 1) := by decide +kernel
theorem dX7_worthOf_379 : decode cX7_worthOf 379 = .ok (.lload 5, 2) := by decide +kernel
theorem dX7_worthOf_381 : decode cX7_worthOf 381 = .ok (.lsub, 1) := by decide +kernel
theorem dX7_worthOf_382 : decode cX7_worthOf 382 = .ok (.lstore_n 3, 1) := by decide +kernel
theorem dX7_worthOf_383 : decode cX7_worthOf 383 = .ok (.lload_n 3, 1) := by decide +kernel
theorem dX7_worthOf_384 : decode cX7_worthOf 384 = .ok (.aload_n 0, 1) := by decide +kernel
theorem dX7_worthOf_385 : decode cX7_worthOf 385 = .ok (.getfield 19, 3) := by decide +kernel
theorem dX7_worthOf_388 : decode cX7_worthOf 388 = .ok (.iload_n 2, 1) := by decide +kernel
theorem dX7_worthOf_389 : decode cX7_worthOf 389 = .ok (.iaload, 1) := by decide +kernel
theorem dX7_worthOf_390 : decode cX7_worthOf 390 = .ok (.i2l, 1) := by decide +kernel
theorem dX7_worthOf_391 : decode cX7_worthOf 391 = .ok (.lmul, 1) := by decide +kernel
theorem dX7_worthOf_392 : decode cX7_worthOf 392 = .ok (.lreturn, 1) := by decide +kernel
theorem dX7_scoreOf_0 : decode cX7_scoreOf 0 = .ok (.lconst 0, 1) := by decide +kernel
theorem dX7_scoreOf_1 : decode cX7_scoreOf 1 = .ok (.lstore_n 3, 1) := by decide +kernel
theorem dX7_scoreOf_2 : decode cX7_scoreOf 2 = .ok (.iconst 0, 1) := by decide +kernel
theorem dX7_scoreOf_3 : decode cX7_scoreOf 3 = .ok (.istore 5, 2) := by decide +kernel
theorem dX7_scoreOf_5 : decode cX7_scoreOf 5 = .ok (.iload 5, 2) := by decide +kernel
theorem dX7_scoreOf_7 : decode cX7_scoreOf 7 = .ok (.aload_n 0, 1) := by decide +kernel
theorem dX7_scoreOf_8 : decode cX7_scoreOf 8 = .ok (.getfield 96, 3) := by decide +kernel
theorem dX7_scoreOf_11 : decode cX7_scoreOf 11 = .ok (.if_icmp .ge 39, 3) := by decide +kernel
theorem dX7_scoreOf_14 : decode cX7_scoreOf 14 = .ok (.lload_n 3, 1) := by decide +kernel
theorem dX7_scoreOf_15 : decode cX7_scoreOf 15 = .ok (.aload_n 0, 1) := by decide +kernel
theorem dX7_scoreOf_16 : decode cX7_scoreOf 16 = .ok (.getfield 22, 3) := by decide +kernel
theorem dX7_scoreOf_19 : decode cX7_scoreOf 19 = .ok (.iload 5, 2) := by decide +kernel
theorem dX7_scoreOf_21 : decode cX7_scoreOf 21 = .ok (.iaload, 1) := by decide +kernel
theorem dX7_scoreOf_22 : decode cX7_scoreOf 22 = .ok (.iload_n 2, 1) := by decide +kernel
theorem dX7_scoreOf_23 : decode cX7_scoreOf 23 = .ok (.if_icmp .ne 18, 3) := by decide +kernel
theorem dX7_scoreOf_26 : decode cX7_scoreOf 26 = .ok (.aload_n 0, 1) := by decide +kernel
theorem dX7_scoreOf_27 : decode cX7_scoreOf 27 = .ok (.getfield 32, 3) := by decide +kernel
theorem dX7_scoreOf_30 : decode cX7_scoreOf 30 = .ok (.bipush 12, 2) := by decide +kernel
theorem dX7_scoreOf_32 : decode cX7_scoreOf 32 = .ok (.iload_n 1, 1) := by decide +kernel
theorem dX7_scoreOf_33 : decode cX7_scoreOf 33 = .ok (.imul, 1) := by decide +kernel
theorem dX7_scoreOf_34 : decode cX7_scoreOf 34 = .ok (.iload 5, 2) := by decide +kernel
theorem dX7_scoreOf_36 : decode cX7_scoreOf 36 = .ok (.iadd, 1) := by decide +kernel
theorem dX7_scoreOf_37 : decode cX7_scoreOf 37 = .ok (.laload, 1) := by decide +kernel
theorem dX7_scoreOf_38 : decode cX7_scoreOf 38 = .ok (.goto 4, 3) := by decide +kernel
theorem dX7_scoreOf_41 : decode cX7_scoreOf 41 = .ok (.lconst 0, 1) := by decide +kernel
theorem dX7_scoreOf_42 : decode cX7_scoreOf 42 = .ok (.ladd, 1) := by decide +kernel
theorem dX7_scoreOf_43 : decode cX7_scoreOf 43 = .ok (.lstore_n 3, 1) := by decide +kernel
theorem dX7_scoreOf_44 : decode cX7_scoreOf 44 = .ok (.iinc 5 1, 3) := by decide +kernel
theorem dX7_scoreOf_47 : decode cX7_scoreOf 47 = .ok (.goto (-42), 3) := by decide +kernel
theorem dX7_scoreOf_50 : decode cX7_scoreOf 50 = .ok (.lload_n 3, 1) := by decide +kernel
theorem dX7_scoreOf_51 : decode cX7_scoreOf 51 = .ok (.lreturn, 1) := by decide +kernel
theorem dX7_remember_0 : decode cX7_remember 0 = .ok (.iconst 0, 1) := by decide +kernel
theorem dX7_remember_1 : decode cX7_remember 1 = .ok (.istore_n 2, 1) := by decide +kernel
theorem dX7_remember_2 : decode cX7_remember 2 = .ok (.iload_n 2, 1) := by decide +kernel
theorem dX7_remember_3 : decode cX7_remember 3 = .ok (.sipush 160, 3) := by decide +kernel
theorem dX7_remember_6 : decode cX7_remember 6 = .ok (.if_icmp .ge 27, 3) := by decide +kernel
theorem dX7_remember_9 : decode cX7_remember 9 = .ok (.aload_n 0, 1) := by decide +kernel
theorem dX7_remember_10 : decode cX7_remember 10 = .ok (.getfield 79, 3) := by decide +kernel
theorem dX7_remember_13 : decode cX7_remember 13 = .ok (.iload_n 2, 1) := by decide +kernel
theorem dX7_remember_14 : decode cX7_remember 14 = .ok (.aload_n 0, 1) := by decide +kernel
theorem dX7_remember_15 : decode cX7_remember 15 = .ok (.getfield 29, 3) := by decide +kernel
theorem dX7_remember_18 : decode cX7_remember 18 = .ok (.sipush 160, 3) := by decide +kernel
theorem dX7_remember_21 : decode cX7_remember 21 = .ok (.iload_n 1, 1) := by decide +kernel
theorem dX7_remember_22 : decode cX7_remember 22 = .ok (.imul, 1) := by decide +kernel
theorem dX7_remember_23 : decode cX7_remember 23 = .ok (.iload_n 2, 1) := by decide +kernel
theorem dX7_remember_24 : decode cX7_remember 24 = .ok (.iadd, 1) := by decide +kernel
theorem dX7_remember_25 : decode cX7_remember 25 = .ok (.iaload, 1) := by decide +kernel
theorem dX7_remember_26 : decode cX7_remember 26 = .ok (.iastore, 1) := by decide +kernel
theorem dX7_remember_27 : decode cX7_remember 27 = .ok (.iinc 2 1, 3) := by decide +kernel
theorem dX7_remember_30 : decode cX7_remember 30 = .ok (.goto (-28), 3) := by decide +kernel
theorem dX7_remember_33 : decode cX7_remember 33 = .ok (.iconst 0, 1) := by decide +kernel
theorem dX7_remember_34 : decode cX7_remember 34 = .ok (.istore_n 2, 1) := by decide +kernel
theorem dX7_remember_35 : decode cX7_remember 35 = .ok (.iload_n 2, 1) := by decide +kernel
theorem dX7_remember_36 : decode cX7_remember 36 = .ok (.aload_n 0, 1) := by decide +kernel
theorem dX7_remember_37 : decode cX7_remember 37 = .ok (.getfield 96, 3) := by decide +kernel
theorem dX7_remember_40 : decode cX7_remember 40 = .ok (.if_icmp .ge 21, 3) := by decide +kernel
theorem dX7_remember_43 : decode cX7_remember 43 = .ok (.aload_n 0, 1) := by decide +kernel
theorem dX7_remember_44 : decode cX7_remember 44 = .ok (.getfield 82, 3) := by decide +kernel
theorem dX7_remember_47 : decode cX7_remember 47 = .ok (.iload_n 2, 1) := by decide +kernel
theorem dX7_remember_48 : decode cX7_remember 48 = .ok (.aload_n 0, 1) := by decide +kernel
theorem dX7_remember_49 : decode cX7_remember 49 = .ok (.iload_n 1, 1) := by decide +kernel
theorem dX7_remember_50 : decode cX7_remember 50 = .ok (.iload_n 2, 1) := by decide +kernel
theorem dX7_remember_51 : decode cX7_remember 51 = .ok (.invokevirtual 99, 3) := by decide +kernel
theorem dX7_remember_54 : decode cX7_remember 54 = .ok (.lastore, 1) := by decide +kernel
theorem dX7_remember_55 : decode cX7_remember 55 = .ok (.iinc 2 1, 3) := by decide +kernel
theorem dX7_remember_58 : decode cX7_remember 58 = .ok (.goto (-23), 3) := by decide +kernel
theorem dX7_remember_61 : decode cX7_remember 61 = .ok (.return_, 1) := by decide +kernel
theorem dX7_others_0 : decode cX7_others 0 = .ok (.iconst 0, 1) := by decide +kernel
theorem dX7_others_1 : decode cX7_others 1 = .ok (.istore_n 2, 1) := by decide +kernel
theorem dX7_others_2 : decode cX7_others 2 = .ok (.iconst 0, 1) := by decide +kernel
theorem dX7_others_3 : decode cX7_others 3 = .ok (.istore_n 3, 1) := by decide +kernel
theorem dX7_others_4 : decode cX7_others 4 = .ok (.iload_n 3, 1) := by decide +kernel
theorem dX7_others_5 : decode cX7_others 5 = .ok (.iconst 4, 1) := by decide +kernel
theorem dX7_others_6 : decode cX7_others 6 = .ok (.aload_n 0, 1) := by decide +kernel
theorem dX7_others_7 : decode cX7_others 7 = .ok (.getfield 89, 3) := by decide +kernel
theorem dX7_others_10 : decode cX7_others 10 = .ok (.imul, 1) := by decide +kernel
theorem dX7_others_11 : decode cX7_others 11 = .ok (.if_icmp .ge 38, 3) := by decide +kernel
theorem dX7_others_14 : decode cX7_others 14 = .ok (.iload_n 2, 1) := by decide +kernel
theorem dX7_others_15 : decode cX7_others 15 = .ok (.aload_n 0, 1) := by decide +kernel
theorem dX7_others_16 : decode cX7_others 16 = .ok (.getfield 79, 3) := by decide +kernel
theorem dX7_others_19 : decode cX7_others 19 = .ok (.iload_n 3, 1) := by decide +kernel
theorem dX7_others_20 : decode cX7_others 20 = .ok (.iaload, 1) := by decide +kernel
theorem dX7_others_21 : decode cX7_others 21 = .ok (.aload_n 0, 1) := by decide +kernel
theorem dX7_others_22 : decode cX7_others 22 = .ok (.getfield 29, 3) := by decide +kernel
theorem dX7_others_25 : decode cX7_others 25 = .ok (.sipush 160, 3) := by decide +kernel
theorem dX7_others_28 : decode cX7_others 28 = .ok (.iload_n 1, 1) := by decide +kernel
theorem dX7_others_29 : decode cX7_others 29 = .ok (.imul, 1) := by decide +kernel
theorem dX7_others_30 : decode cX7_others 30 = .ok (.iload_n 3, 1) := by decide +kernel
theorem dX7_others_31 : decode cX7_others 31 = .ok (.iadd, 1) := by decide +kernel
theorem dX7_others_32 : decode cX7_others 32 = .ok (.iaload, 1) := by decide +kernel
theorem dX7_others_33 : decode cX7_others 33 = .ok (.if_icmp .ne 7, 3) := by decide +kernel
theorem dX7_others_36 : decode cX7_others 36 = .ok (.iconst 0, 1) := by decide +kernel
theorem dX7_others_37 : decode cX7_others 37 = .ok (.goto 4, 3) := by decide +kernel
theorem dX7_others_40 : decode cX7_others 40 = .ok (.iconst 1, 1) := by decide +kernel
theorem dX7_others_41 : decode cX7_others 41 = .ok (.iadd, 1) := by decide +kernel
theorem dX7_others_42 : decode cX7_others 42 = .ok (.istore_n 2, 1) := by decide +kernel
theorem dX7_others_43 : decode cX7_others 43 = .ok (.iinc 3 1, 3) := by decide +kernel
theorem dX7_others_46 : decode cX7_others 46 = .ok (.goto (-42), 3) := by decide +kernel
theorem dX7_others_49 : decode cX7_others 49 = .ok (.iload_n 2, 1) := by decide +kernel
theorem dX7_others_50 : decode cX7_others 50 = .ok (.ireturn, 1) := by decide +kernel
theorem dX7_pairs_0 : decode cX7_pairs 0 = .ok (.iconst 0, 1) := by decide +kernel
theorem dX7_pairs_1 : decode cX7_pairs 1 = .ok (.istore_n 2, 1) := by decide +kernel
theorem dX7_pairs_2 : decode cX7_pairs 2 = .ok (.iconst 0, 1) := by decide +kernel
theorem dX7_pairs_3 : decode cX7_pairs 3 = .ok (.istore_n 3, 1) := by decide +kernel
theorem dX7_pairs_4 : decode cX7_pairs 4 = .ok (.iload_n 3, 1) := by decide +kernel
theorem dX7_pairs_5 : decode cX7_pairs 5 = .ok (.aload_n 0, 1) := by decide +kernel
theorem dX7_pairs_6 : decode cX7_pairs 6 = .ok (.getfield 96, 3) := by decide +kernel
theorem dX7_pairs_9 : decode cX7_pairs 9 = .ok (.if_icmp .ge 133, 3) := by decide +kernel
theorem dX7_pairs_12 : decode cX7_pairs 12 = .ok (.iconst 0, 1) := by decide +kernel
theorem dX7_pairs_13 : decode cX7_pairs 13 = .ok (.istore 4, 2) := by decide +kernel
theorem dX7_pairs_15 : decode cX7_pairs 15 = .ok (.iload 4, 2) := by decide +kernel
theorem dX7_pairs_17 : decode cX7_pairs 17 = .ok (.aload_n 0, 1) := by decide +kernel
theorem dX7_pairs_18 : decode cX7_pairs 18 = .ok (.getfield 89, 3) := by decide +kernel
theorem dX7_pairs_21 : decode cX7_pairs 21 = .ok (.if_icmp .ge 115, 3) := by decide +kernel
theorem dX7_pairs_24 : decode cX7_pairs 24 = .ok (.aload_n 0, 1) := by decide +kernel
theorem dX7_pairs_25 : decode cX7_pairs 25 = .ok (.getfield 79, 3) := by decide +kernel
theorem dX7_pairs_28 : decode cX7_pairs 28 = .ok (.iconst 4, 1) := by decide +kernel
theorem dX7_pairs_29 : decode cX7_pairs 29 = .ok (.iload 4, 2) := by decide +kernel
theorem dX7_pairs_31 : decode cX7_pairs 31 = .ok (.imul, 1) := by decide +kernel
theorem dX7_pairs_32 : decode cX7_pairs 32 = .ok (.aload_n 0, 1) := by decide +kernel
theorem dX7_pairs_33 : decode cX7_pairs 33 = .ok (.getfield 13, 3) := by decide +kernel
theorem dX7_pairs_36 : decode cX7_pairs 36 = .ok (.iload_n 3, 1) := by decide +kernel
theorem dX7_pairs_37 : decode cX7_pairs 37 = .ok (.iaload, 1) := by decide +kernel
theorem dX7_pairs_38 : decode cX7_pairs 38 = .ok (.iadd, 1) := by decide +kernel
theorem dX7_pairs_39 : decode cX7_pairs 39 = .ok (.iaload, 1) := by decide +kernel
theorem dX7_pairs_40 : decode cX7_pairs 40 = .ok (.aload_n 0, 1) := by decide +kernel
theorem dX7_pairs_41 : decode cX7_pairs 41 = .ok (.getfield 29, 3) := by decide +kernel
theorem dX7_pairs_44 : decode cX7_pairs 44 = .ok (.aload_n 0, 1) := by decide +kernel
theorem dX7_pairs_45 : decode cX7_pairs 45 = .ok (.iload_n 1, 1) := by decide +kernel
theorem dX7_pairs_46 : decode cX7_pairs 46 = .ok (.iload 4, 2) := by decide +kernel
theorem dX7_pairs_48 : decode cX7_pairs 48 = .ok (.aload_n 0, 1) := by decide +kernel
theorem dX7_pairs_49 : decode cX7_pairs 49 = .ok (.getfield 13, 3) := by decide +kernel
theorem dX7_pairs_52 : decode cX7_pairs 52 = .ok (.iload_n 3, 1) := by decide +kernel
theorem dX7_pairs_53 : decode cX7_pairs 53 = .ok (.iaload, 1) := by decide +kernel
theorem dX7_pairs_54 : decode cX7_pairs 54 = .ok (.invokevirtual 92, 3) := by decide +kernel
theorem dX7_pairs_57 : decode cX7_pairs 57 = .ok (.iaload, 1) := by decide +kernel
theorem dX7_pairs_58 : decode cX7_pairs 58 = .ok (.if_icmp .eq 7, 3) := by decide +kernel
theorem dX7_pairs_61 : decode cX7_pairs 61 = .ok (.iconst 1, 1) := by decide +kernel
theorem dX7_pairs_62 : decode cX7_pairs 62 = .ok (.goto 4, 3) := by decide +kernel
theorem dX7_pairs_65 : decode cX7_pairs 65 = .ok (.iconst 0, 1) := by decide +kernel
theorem dX7_pairs_66 : decode cX7_pairs 66 = .ok (.istore 5, 2) := by decide +kernel
theorem dX7_pairs_68 : decode cX7_pairs 68 = .ok (.aload_n 0, 1) := by decide +kernel
theorem dX7_pairs_69 : decode cX7_pairs 69 = .ok (.getfield 7, 3) := by decide +kernel
theorem dX7_pairs_72 : decode cX7_pairs 72 = .ok (.iload_n 3, 1) := by decide +kernel
theorem dX7_pairs_73 : decode cX7_pairs 73 = .ok (.iaload, 1) := by decide +kernel
theorem dX7_pairs_74 : decode cX7_pairs 74 = .ok (.iconst 5, 1) := by decide +kernel
theorem dX7_pairs_75 : decode cX7_pairs 75 = .ok (.if_icmp .ne 34, 3) := by decide +kernel
theorem dX7_pairs_78 : decode cX7_pairs 78 = .ok (.aload_n 0, 1) := by decide +kernel
theorem dX7_pairs_79 : decode cX7_pairs 79 = .ok (.getfield 79, 3) := by decide +kernel
theorem dX7_pairs_82 : decode cX7_pairs 82 = .ok (.iconst 4, 1) := by decide +kernel
theorem dX7_pairs_83 : decode cX7_pairs 83 = .ok (.iload 4, 2) := by decide +kernel
theorem dX7_pairs_85 : decode cX7_pairs 85 = .ok (.imul, 1) := by decide +kernel
theorem dX7_pairs_86 : decode cX7_pairs 86 = .ok (.iconst 2, 1) := by decide +kernel
theorem dX7_pairs_87 : decode cX7_pairs 87 = .ok (.iadd, 1) := by decide +kernel
theorem dX7_pairs_88 : decode cX7_pairs 88 = .ok (.iaload, 1) := by decide +kernel
theorem dX7_pairs_89 : decode cX7_pairs 89 = .ok (.aload_n 0, 1) := by decide +kernel
theorem dX7_pairs_90 : decode cX7_pairs 90 = .ok (.getfield 29, 3) := by decide +kernel
theorem dX7_pairs_93 : decode cX7_pairs 93 = .ok (.aload_n 0, 1) := by decide +kernel
theorem dX7_pairs_94 : decode cX7_pairs 94 = .ok (.iload_n 1, 1) := by decide +kernel
theorem dX7_pairs_95 : decode cX7_pairs 95 = .ok (.iload 4, 2) := by decide +kernel
theorem dX7_pairs_97 : decode cX7_pairs 97 = .ok (.iconst 2, 1) := by decide +kernel
theorem dX7_pairs_98 : decode cX7_pairs 98 = .ok (.invokevirtual 92, 3) := by decide +kernel
theorem dX7_pairs_101 : decode cX7_pairs 101 = .ok (.iaload, 1) := by decide +kernel
theorem dX7_pairs_102 : decode cX7_pairs 102 = .ok (.if_icmp .eq 7, 3) := by decide +kernel
theorem dX7_pairs_105 : decode cX7_pairs 105 = .ok (.iconst 1, 1) := by decide +kernel
theorem dX7_pairs_106 : decode cX7_pairs 106 = .ok (.goto 4, 3) := by decide +kernel
theorem dX7_pairs_109 : decode cX7_pairs 109 = .ok (.iconst 0, 1) := by decide +kernel
theorem dX7_pairs_110 : decode cX7_pairs 110 = .ok (.istore 6, 2) := by decide +kernel
theorem dX7_pairs_112 : decode cX7_pairs 112 = .ok (.iload_n 2, 1) := by decide +kernel
theorem dX7_pairs_113 : decode cX7_pairs 113 = .ok (.iload 5, 2) := by decide +kernel
theorem dX7_pairs_115 : decode cX7_pairs 115 = .ok (.ifCond .ne 8, 3) := by decide +kernel
theorem dX7_pairs_118 : decode cX7_pairs 118 = .ok (.iload 6, 2) := by decide +kernel
theorem dX7_pairs_120 : decode cX7_pairs 120 = .ok (.ifCond .eq 7, 3) := by decide +kernel
theorem dX7_pairs_123 : decode cX7_pairs 123 = .ok (.iconst 1, 1) := by decide +kernel
theorem dX7_pairs_124 : decode cX7_pairs 124 = .ok (.goto 4, 3) := by decide +kernel
theorem dX7_pairs_127 : decode cX7_pairs 127 = .ok (.iconst 0, 1) := by decide +kernel
theorem dX7_pairs_128 : decode cX7_pairs 128 = .ok (.iadd, 1) := by decide +kernel
theorem dX7_pairs_129 : decode cX7_pairs 129 = .ok (.istore_n 2, 1) := by decide +kernel
theorem dX7_pairs_130 : decode cX7_pairs 130 = .ok (.iinc 4 1, 3) := by decide +kernel
theorem dX7_pairs_133 : decode cX7_pairs 133 = .ok (.goto (-118), 3) := by decide +kernel
theorem dX7_pairs_136 : decode cX7_pairs 136 = .ok (.iinc 3 1, 3) := by decide +kernel
theorem dX7_pairs_139 : decode cX7_pairs 139 = .ok (.goto (-135), 3) := by decide +kernel
theorem dX7_pairs_142 : decode cX7_pairs 142 = .ok (.iload_n 2, 1) := by decide +kernel
theorem dX7_pairs_143 : decode cX7_pairs 143 = .ok (.ireturn, 1) := by decide +kernel
theorem dX7_isBegun_0 : decode cX7_isBegun 0 = .ok (.aload_n 0, 1) := by decide +kernel
theorem dX7_isBegun_1 : decode cX7_isBegun 1 = .ok (.getfield 25, 3) := by decide +kernel
theorem dX7_isBegun_4 : decode cX7_isBegun 4 = .ok (.iconst 1, 1) := by decide +kernel
theorem dX7_isBegun_5 : decode cX7_isBegun 5 = .ok (.if_icmp .gt 12, 3) := by decide +kernel
theorem dX7_isBegun_8 : decode cX7_isBegun 8 = .ok (.aload_n 0, 1) := by decide +kernel
theorem dX7_isBegun_9 : decode cX7_isBegun 9 = .ok (.getfield 40, 3) := by decide +kernel
theorem dX7_isBegun_12 : decode cX7_isBegun 12 = .ok (.iconst 0, 1) := by decide +kernel
theorem dX7_isBegun_13 : decode cX7_isBegun 13 = .ok (.iaload, 1) := by decide +kernel
theorem dX7_isBegun_14 : decode cX7_isBegun 14 = .ok (.ifCond .le 7, 3) := by decide +kernel
theorem dX7_isBegun_17 : decode cX7_isBegun 17 = .ok (.iconst 1, 1) := by decide +kernel
theorem dX7_isBegun_18 : decode cX7_isBegun 18 = .ok (.goto 4, 3) := by decide +kernel
theorem dX7_isBegun_21 : decode cX7_isBegun 21 = .ok (.iconst 0, 1) := by decide +kernel
theorem dX7_isBegun_22 : decode cX7_isBegun 22 = .ok (.ireturn, 1) := by decide +kernel
theorem dX7_object_0 : decode cX7_object 0 = .ok (.aload_n 0, 1) := by decide +kernel
theorem dX7_object_1 : decode cX7_object 1 = .ok (.invokevirtual 103, 3) := by decide +kernel
theorem dX7_object_4 : decode cX7_object 4 = .ok (.ifCond .eq 6, 3) := by decide +kernel
theorem dX7_object_7 : decode cX7_object 7 = .ok (.bipush (-3), 2) := by decide +kernel
theorem dX7_object_9 : decode cX7_object 9 = .ok (.ireturn, 1) := by decide +kernel
theorem dX7_object_10 : decode cX7_object 10 = .ok (.aload_n 0, 1) := by decide +kernel
theorem dX7_object_11 : decode cX7_object 11 = .ok (.getfield 89, 3) := by decide +kernel
theorem dX7_object_14 : decode cX7_object 14 = .ok (.bipush 40, 2) := by decide +kernel
theorem dX7_object_16 : decode cX7_object 16 = .ok (.if_icmp .ne 6, 3) := by decide +kernel
theorem dX7_object_19 : decode cX7_object 19 = .ok (.bipush (-4), 2) := by decide +kernel
theorem dX7_object_21 : decode cX7_object 21 = .ok (.ireturn, 1) := by decide +kernel
theorem dX7_object_22 : decode cX7_object 22 = .ok (.aload_n 0, 1) := by decide +kernel
theorem dX7_object_23 : decode cX7_object 23 = .ok (.iconst 0, 1) := by decide +kernel
theorem dX7_object_24 : decode cX7_object 24 = .ok (.invokevirtual 107, 3) := by decide +kernel
theorem dX7_object_27 : decode cX7_object 27 = .ok (.aload_n 0, 1) := by decide +kernel
theorem dX7_object_28 : decode cX7_object 28 = .ok (.getfield 29, 3) := by decide +kernel
theorem dX7_object_31 : decode cX7_object 31 = .ok (.aload_n 0, 1) := by decide +kernel
theorem dX7_object_32 : decode cX7_object 32 = .ok (.iconst 0, 1) := by decide +kernel
theorem dX7_object_33 : decode cX7_object 33 = .ok (.aload_n 0, 1) := by decide +kernel
theorem dX7_object_34 : decode cX7_object 34 = .ok (.getfield 89, 3) := by decide +kernel
theorem dX7_object_37 : decode cX7_object 37 = .ok (.iconst 2, 1) := by decide +kernel
theorem dX7_object_38 : decode cX7_object 38 = .ok (.invokevirtual 92, 3) := by decide +kernel
theorem dX7_object_41 : decode cX7_object 41 = .ok (.iconst (-1), 1) := by decide +kernel
theorem dX7_object_42 : decode cX7_object 42 = .ok (.iastore, 1) := by decide +kernel
theorem dX7_object_43 : decode cX7_object 43 = .ok (.aload_n 0, 1) := by decide +kernel
theorem dX7_object_44 : decode cX7_object 44 = .ok (.dup, 1) := by decide +kernel
theorem dX7_object_45 : decode cX7_object 45 = .ok (.getfield 89, 3) := by decide +kernel
theorem dX7_object_48 : decode cX7_object 48 = .ok (.iconst 1, 1) := by decide +kernel
theorem dX7_object_49 : decode cX7_object 49 = .ok (.iadd, 1) := by decide +kernel
theorem dX7_object_50 : decode cX7_object 50 = .ok (.putfield 89, 3) := by decide +kernel
theorem dX7_object_53 : decode cX7_object 53 = .ok (.iconst 0, 1) := by decide +kernel
theorem dX7_object_54 : decode cX7_object 54 = .ok (.istore_n 1, 1) := by decide +kernel
theorem dX7_object_55 : decode cX7_object 55 = .ok (.iload_n 1, 1) := by decide +kernel
theorem dX7_object_56 : decode cX7_object 56 = .ok (.aload_n 0, 1) := by decide +kernel
theorem dX7_object_57 : decode cX7_object 57 = .ok (.getfield 96, 3) := by decide +kernel
theorem dX7_object_60 : decode cX7_object 60 = .ok (.if_icmp .ge 31, 3) := by decide +kernel
theorem dX7_object_63 : decode cX7_object 63 = .ok (.aload_n 0, 1) := by decide +kernel
theorem dX7_object_64 : decode cX7_object 64 = .ok (.getfield 32, 3) := by decide +kernel
theorem dX7_object_67 : decode cX7_object 67 = .ok (.iload_n 1, 1) := by decide +kernel
theorem dX7_object_68 : decode cX7_object 68 = .ok (.dup2, 1) := by decide +kernel
theorem dX7_object_69 : decode cX7_object 69 = .ok (.laload, 1) := by decide +kernel
theorem dX7_object_70 : decode cX7_object 70 = .ok (.aload_n 0, 1) := by decide +kernel
theorem dX7_object_71 : decode cX7_object 71 = .ok (.iconst 0, 1) := by decide +kernel
theorem dX7_object_72 : decode cX7_object 72 = .ok (.iload_n 1, 1) := by decide +kernel
theorem dX7_object_73 : decode cX7_object 73 = .ok (.invokevirtual 99, 3) := by decide +kernel
theorem dX7_object_76 : decode cX7_object 76 = .ok (.aload_n 0, 1) := by decide +kernel
theorem dX7_object_77 : decode cX7_object 77 = .ok (.getfield 82, 3) := by decide +kernel
theorem dX7_object_80 : decode cX7_object 80 = .ok (.iload_n 1, 1) := by decide +kernel
theorem dX7_object_81 : decode cX7_object 81 = .ok (.laload, 1) := by decide +kernel
theorem dX7_object_82 : decode cX7_object 82 = .ok (.lsub, 1) := by decide +kernel
theorem dX7_object_83 : decode cX7_object 83 = .ok (.ladd, 1) := by decide +kernel
theorem dX7_object_84 : decode cX7_object 84 = .ok (.lastore, 1) := by decide +kernel
theorem dX7_object_85 : decode cX7_object 85 = .ok (.iinc 1 1, 3) := by decide +kernel
theorem dX7_object_88 : decode cX7_object 88 = .ok (.goto (-33), 3) := by decide +kernel
theorem dX7_object_91 : decode cX7_object 91 = .ok (.aload_n 0, 1) := by decide +kernel
theorem dX7_object_92 : decode cX7_object 92 = .ok (.getfield 89, 3) := by decide +kernel
theorem dX7_object_95 : decode cX7_object 95 = .ok (.iconst 1, 1) := by decide +kernel
theorem dX7_object_96 : decode cX7_object 96 = .ok (.isub, 1) := by decide +kernel
theorem dX7_object_97 : decode cX7_object 97 = .ok (.ireturn, 1) := by decide +kernel
theorem dX7_rule_0 : decode cX7_rule 0 = .ok (.iload_n 1, 1) := by decide +kernel
theorem dX7_rule_1 : decode cX7_rule 1 = .ok (.iconst 0, 1) := by decide +kernel
theorem dX7_rule_2 : decode cX7_rule 2 = .ok (.iconst 5, 1) := by decide +kernel
theorem dX7_rule_3 : decode cX7_rule 3 = .ok (.invokestatic 85, 3) := by decide +kernel
theorem dX7_rule_6 : decode cX7_rule 6 = .ok (.ifCond .eq 45, 3) := by decide +kernel
theorem dX7_rule_9 : decode cX7_rule 9 = .ok (.iload_n 2, 1) := by decide +kernel
theorem dX7_rule_10 : decode cX7_rule 10 = .ok (.iconst 0, 1) := by decide +kernel
theorem dX7_rule_11 : decode cX7_rule 11 = .ok (.iconst 3, 1) := by decide +kernel
theorem dX7_rule_12 : decode cX7_rule 12 = .ok (.invokestatic 85, 3) := by decide +kernel
theorem dX7_rule_15 : decode cX7_rule 15 = .ok (.ifCond .eq 36, 3) := by decide +kernel
theorem dX7_rule_18 : decode cX7_rule 18 = .ok (.iload_n 3, 1) := by decide +kernel
theorem dX7_rule_19 : decode cX7_rule 19 = .ok (.ldc 111, 2) := by decide +kernel
theorem dX7_rule_21 : decode cX7_rule 21 = .ok (.ldc 112, 2) := by decide +kernel
theorem dX7_rule_23 : decode cX7_rule 23 = .ok (.invokestatic 85, 3) := by decide +kernel
theorem dX7_rule_26 : decode cX7_rule 26 = .ok (.ifCond .eq 25, 3) := by decide +kernel
theorem dX7_rule_29 : decode cX7_rule 29 = .ok (.iload 4, 2) := by decide +kernel
theorem dX7_rule_31 : decode cX7_rule 31 = .ok (.iconst 1, 1) := by decide +kernel
theorem dX7_rule_32 : decode cX7_rule 32 = .ok (.sipush 1000, 3) := by decide +kernel
theorem dX7_rule_35 : decode cX7_rule 35 = .ok (.invokestatic 85, 3) := by decide +kernel
theorem dX7_rule_38 : decode cX7_rule 38 = .ok (.ifCond .eq 13, 3) := by decide +kernel
theorem dX7_rule_41 : decode cX7_rule 41 = .ok (.iload 5, 2) := by decide +kernel
theorem dX7_rule_43 : decode cX7_rule 43 = .ok (.iconst 0, 1) := by decide +kernel
theorem dX7_rule_44 : decode cX7_rule 44 = .ok (.iconst 2, 1) := by decide +kernel
theorem dX7_rule_45 : decode cX7_rule 45 = .ok (.invokestatic 85, 3) := by decide +kernel
theorem dX7_rule_48 : decode cX7_rule 48 = .ok (.ifCond .ne 5, 3) := by decide +kernel
theorem dX7_rule_51 : decode cX7_rule 51 = .ok (.iconst (-1), 1) := by decide +kernel
theorem dX7_rule_52 : decode cX7_rule 52 = .ok (.ireturn, 1) := by decide +kernel
theorem dX7_rule_53 : decode cX7_rule 53 = .ok (.aload_n 0, 1) := by decide +kernel
theorem dX7_rule_54 : decode cX7_rule 54 = .ok (.invokevirtual 103, 3) := by decide +kernel
theorem dX7_rule_57 : decode cX7_rule 57 = .ok (.ifCond .eq 6, 3) := by decide +kernel
theorem dX7_rule_60 : decode cX7_rule 60 = .ok (.bipush (-3), 2) := by decide +kernel
theorem dX7_rule_62 : decode cX7_rule 62 = .ok (.ireturn, 1) := by decide +kernel
theorem dX7_rule_63 : decode cX7_rule 63 = .ok (.aload_n 0, 1) := by decide +kernel
theorem dX7_rule_64 : decode cX7_rule 64 = .ok (.getfield 96, 3) := by decide +kernel
theorem dX7_rule_67 : decode cX7_rule 67 = .ok (.bipush 12, 2) := by decide +kernel
theorem dX7_rule_69 : decode cX7_rule 69 = .ok (.if_icmp .ne 6, 3) := by decide +kernel
theorem dX7_rule_72 : decode cX7_rule 72 = .ok (.bipush (-4), 2) := by decide +kernel
theorem dX7_rule_74 : decode cX7_rule 74 = .ok (.ireturn, 1) := by decide +kernel
theorem dX7_rule_75 : decode cX7_rule 75 = .ok (.aload_n 0, 1) := by decide +kernel
theorem dX7_rule_76 : decode cX7_rule 76 = .ok (.getfield 7, 3) := by decide +kernel
theorem dX7_rule_79 : decode cX7_rule 79 = .ok (.aload_n 0, 1) := by decide +kernel
theorem dX7_rule_80 : decode cX7_rule 80 = .ok (.getfield 96, 3) := by decide +kernel
theorem dX7_rule_83 : decode cX7_rule 83 = .ok (.iload_n 1, 1) := by decide +kernel
theorem dX7_rule_84 : decode cX7_rule 84 = .ok (.iastore, 1) := by decide +kernel
theorem dX7_rule_85 : decode cX7_rule 85 = .ok (.aload_n 0, 1) := by decide +kernel
theorem dX7_rule_86 : decode cX7_rule 86 = .ok (.getfield 13, 3) := by decide +kernel
theorem dX7_rule_89 : decode cX7_rule 89 = .ok (.aload_n 0, 1) := by decide +kernel
theorem dX7_rule_90 : decode cX7_rule 90 = .ok (.getfield 96, 3) := by decide +kernel
theorem dX7_rule_93 : decode cX7_rule 93 = .ok (.iload_n 2, 1) := by decide +kernel
theorem dX7_rule_94 : decode cX7_rule 94 = .ok (.iastore, 1) := by decide +kernel
theorem dX7_rule_95 : decode cX7_rule 95 = .ok (.aload_n 0, 1) := by decide +kernel
theorem dX7_rule_96 : decode cX7_rule 96 = .ok (.getfield 16, 3) := by decide +kernel
theorem dX7_rule_99 : decode cX7_rule 99 = .ok (.aload_n 0, 1) := by decide +kernel
theorem dX7_rule_100 : decode cX7_rule 100 = .ok (.getfield 96, 3) := by decide +kernel
theorem dX7_rule_103 : decode cX7_rule 103 = .ok (.iload_n 3, 1) := by decide +kernel
theorem dX7_rule_104 : decode cX7_rule 104 = .ok (.iastore, 1) := by decide +kernel
theorem dX7_rule_105 : decode cX7_rule 105 = .ok (.aload_n 0, 1) := by decide +kernel
theorem dX7_rule_106 : decode cX7_rule 106 = .ok (.getfield 19, 3) := by decide +kernel
theorem dX7_rule_109 : decode cX7_rule 109 = .ok (.aload_n 0, 1) := by decide +kernel
theorem dX7_rule_110 : decode cX7_rule 110 = .ok (.getfield 96, 3) := by decide +kernel
theorem dX7_rule_113 : decode cX7_rule 113 = .ok (.iload 4, 2) := by decide +kernel
theorem dX7_rule_115 : decode cX7_rule 115 = .ok (.iastore, 1) := by decide +kernel
theorem dX7_rule_116 : decode cX7_rule 116 = .ok (.aload_n 0, 1) := by decide +kernel
theorem dX7_rule_117 : decode cX7_rule 117 = .ok (.getfield 22, 3) := by decide +kernel
theorem dX7_rule_120 : decode cX7_rule 120 = .ok (.aload_n 0, 1) := by decide +kernel
theorem dX7_rule_121 : decode cX7_rule 121 = .ok (.getfield 96, 3) := by decide +kernel
theorem dX7_rule_124 : decode cX7_rule 124 = .ok (.iload 5, 2) := by decide +kernel
theorem dX7_rule_126 : decode cX7_rule 126 = .ok (.iastore, 1) := by decide +kernel
theorem dX7_rule_127 : decode cX7_rule 127 = .ok (.aload_n 0, 1) := by decide +kernel
theorem dX7_rule_128 : decode cX7_rule 128 = .ok (.getfield 32, 3) := by decide +kernel
theorem dX7_rule_131 : decode cX7_rule 131 = .ok (.aload_n 0, 1) := by decide +kernel
theorem dX7_rule_132 : decode cX7_rule 132 = .ok (.getfield 96, 3) := by decide +kernel
theorem dX7_rule_135 : decode cX7_rule 135 = .ok (.aload_n 0, 1) := by decide +kernel
theorem dX7_rule_136 : decode cX7_rule 136 = .ok (.iconst 0, 1) := by decide +kernel
theorem dX7_rule_137 : decode cX7_rule 137 = .ok (.aload_n 0, 1) := by decide +kernel
theorem dX7_rule_138 : decode cX7_rule 138 = .ok (.getfield 96, 3) := by decide +kernel
theorem dX7_rule_141 : decode cX7_rule 141 = .ok (.invokevirtual 99, 3) := by decide +kernel
theorem dX7_rule_144 : decode cX7_rule 144 = .ok (.lastore, 1) := by decide +kernel
theorem dX7_rule_145 : decode cX7_rule 145 = .ok (.aload_n 0, 1) := by decide +kernel
theorem dX7_rule_146 : decode cX7_rule 146 = .ok (.dup, 1) := by decide +kernel
theorem dX7_rule_147 : decode cX7_rule 147 = .ok (.getfield 96, 3) := by decide +kernel
theorem dX7_rule_150 : decode cX7_rule 150 = .ok (.iconst 1, 1) := by decide +kernel
theorem dX7_rule_151 : decode cX7_rule 151 = .ok (.iadd, 1) := by decide +kernel
theorem dX7_rule_152 : decode cX7_rule 152 = .ok (.putfield 96, 3) := by decide +kernel
theorem dX7_rule_155 : decode cX7_rule 155 = .ok (.aload_n 0, 1) := by decide +kernel
theorem dX7_rule_156 : decode cX7_rule 156 = .ok (.getfield 96, 3) := by decide +kernel
theorem dX7_rule_159 : decode cX7_rule 159 = .ok (.iconst 1, 1) := by decide +kernel
theorem dX7_rule_160 : decode cX7_rule 160 = .ok (.isub, 1) := by decide +kernel
theorem dX7_rule_161 : decode cX7_rule 161 = .ok (.ireturn, 1) := by decide +kernel
theorem dX7_isRule_0 : decode cX7_isRule 0 = .ok (.iload_n 1, 1) := by decide +kernel
theorem dX7_isRule_1 : decode cX7_isRule 1 = .ok (.iconst 0, 1) := by decide +kernel
theorem dX7_isRule_2 : decode cX7_isRule 2 = .ok (.aload_n 0, 1) := by decide +kernel
theorem dX7_isRule_3 : decode cX7_isRule 3 = .ok (.getfield 96, 3) := by decide +kernel
theorem dX7_isRule_6 : decode cX7_isRule 6 = .ok (.iconst 1, 1) := by decide +kernel
theorem dX7_isRule_7 : decode cX7_isRule 7 = .ok (.isub, 1) := by decide +kernel
theorem dX7_isRule_8 : decode cX7_isRule 8 = .ok (.invokestatic 85, 3) := by decide +kernel
theorem dX7_isRule_11 : decode cX7_isRule 11 = .ok (.ireturn, 1) := by decide +kernel
theorem dX7_forget_0 : decode cX7_forget 0 = .ok (.aload_n 0, 1) := by decide +kernel
theorem dX7_forget_1 : decode cX7_forget 1 = .ok (.iload_n 1, 1) := by decide +kernel
theorem dX7_forget_2 : decode cX7_forget 2 = .ok (.invokevirtual 113, 3) := by decide +kernel
theorem dX7_forget_5 : decode cX7_forget 5 = .ok (.ifCond .eq 11, 3) := by decide +kernel
theorem dX7_forget_8 : decode cX7_forget 8 = .ok (.aload_n 0, 1) := by decide +kernel
theorem dX7_forget_9 : decode cX7_forget 9 = .ok (.iload_n 2, 1) := by decide +kernel
theorem dX7_forget_10 : decode cX7_forget 10 = .ok (.invokevirtual 117, 3) := by decide +kernel
theorem dX7_forget_13 : decode cX7_forget 13 = .ok (.ifCond .ne 5, 3) := by decide +kernel
theorem dX7_forget_16 : decode cX7_forget 16 = .ok (.iconst (-1), 1) := by decide +kernel
theorem dX7_forget_17 : decode cX7_forget 17 = .ok (.ireturn, 1) := by decide +kernel
theorem dX7_forget_18 : decode cX7_forget 18 = .ok (.aload_n 0, 1) := by decide +kernel
theorem dX7_forget_19 : decode cX7_forget 19 = .ok (.getfield 36, 3) := by decide +kernel
theorem dX7_forget_22 : decode cX7_forget 22 = .ok (.bipush 12, 2) := by decide +kernel
theorem dX7_forget_24 : decode cX7_forget 24 = .ok (.iload_n 1, 1) := by decide +kernel
theorem dX7_forget_25 : decode cX7_forget 25 = .ok (.imul, 1) := by decide +kernel
theorem dX7_forget_26 : decode cX7_forget 26 = .ok (.iload_n 2, 1) := by decide +kernel
theorem dX7_forget_27 : decode cX7_forget 27 = .ok (.iadd, 1) := by decide +kernel
theorem dX7_forget_28 : decode cX7_forget 28 = .ok (.baload, 1) := by decide +kernel
theorem dX7_forget_29 : decode cX7_forget 29 = .ok (.istore 4, 2) := by decide +kernel
theorem dX7_forget_31 : decode cX7_forget 31 = .ok (.aload_n 0, 1) := by decide +kernel
theorem dX7_forget_32 : decode cX7_forget 32 = .ok (.getfield 36, 3) := by decide +kernel
theorem dX7_forget_35 : decode cX7_forget 35 = .ok (.bipush 12, 2) := by decide +kernel
theorem dX7_forget_37 : decode cX7_forget 37 = .ok (.iload_n 1, 1) := by decide +kernel
theorem dX7_forget_38 : decode cX7_forget 38 = .ok (.imul, 1) := by decide +kernel
theorem dX7_forget_39 : decode cX7_forget 39 = .ok (.iload_n 2, 1) := by decide +kernel
theorem dX7_forget_40 : decode cX7_forget 40 = .ok (.iadd, 1) := by decide +kernel
theorem dX7_forget_41 : decode cX7_forget 41 = .ok (.iload_n 3, 1) := by decide +kernel
theorem dX7_forget_42 : decode cX7_forget 42 = .ok (.bastore, 1) := by decide +kernel
theorem dX7_forget_43 : decode cX7_forget 43 = .ok (.iload 4, 2) := by decide +kernel
theorem dX7_forget_45 : decode cX7_forget 45 = .ok (.ifCond .eq 7, 3) := by decide +kernel
theorem dX7_forget_48 : decode cX7_forget 48 = .ok (.iconst 1, 1) := by decide +kernel
theorem dX7_forget_49 : decode cX7_forget 49 = .ok (.goto 4, 3) := by decide +kernel
theorem dX7_forget_52 : decode cX7_forget 52 = .ok (.iconst 0, 1) := by decide +kernel
theorem dX7_forget_53 : decode cX7_forget 53 = .ok (.ireturn, 1) := by decide +kernel
theorem dX7_fork_0 : decode cX7_fork 0 = .ok (.aload_n 0, 1) := by decide +kernel
theorem dX7_fork_1 : decode cX7_fork 1 = .ok (.iload_n 1, 1) := by decide +kernel
theorem dX7_fork_2 : decode cX7_fork 2 = .ok (.invokevirtual 113, 3) := by decide +kernel
theorem dX7_fork_5 : decode cX7_fork 5 = .ok (.ifCond .ne 5, 3) := by decide +kernel
theorem dX7_fork_8 : decode cX7_fork 8 = .ok (.iconst (-1), 1) := by decide +kernel
theorem dX7_fork_9 : decode cX7_fork 9 = .ok (.ireturn, 1) := by decide +kernel
theorem dX7_fork_10 : decode cX7_fork 10 = .ok (.aload_n 0, 1) := by decide +kernel
theorem dX7_fork_11 : decode cX7_fork 11 = .ok (.getfield 25, 3) := by decide +kernel
theorem dX7_fork_14 : decode cX7_fork 14 = .ok (.iconst 4, 1) := by decide +kernel
theorem dX7_fork_15 : decode cX7_fork 15 = .ok (.if_icmp .ne 6, 3) := by decide +kernel
theorem dX7_fork_18 : decode cX7_fork 18 = .ok (.bipush (-4), 2) := by decide +kernel
theorem dX7_fork_20 : decode cX7_fork 20 = .ok (.ireturn, 1) := by decide +kernel
theorem dX7_fork_21 : decode cX7_fork 21 = .ok (.iconst 0, 1) := by decide +kernel
theorem dX7_fork_22 : decode cX7_fork 22 = .ok (.istore_n 2, 1) := by decide +kernel
theorem dX7_fork_23 : decode cX7_fork 23 = .ok (.iload_n 2, 1) := by decide +kernel
theorem dX7_fork_24 : decode cX7_fork 24 = .ok (.sipush 160, 3) := by decide +kernel
theorem dX7_fork_27 : decode cX7_fork 27 = .ok (.if_icmp .ge 36, 3) := by decide +kernel
theorem dX7_fork_30 : decode cX7_fork 30 = .ok (.aload_n 0, 1) := by decide +kernel
theorem dX7_fork_31 : decode cX7_fork 31 = .ok (.getfield 29, 3) := by decide +kernel
theorem dX7_fork_34 : decode cX7_fork 34 = .ok (.sipush 160, 3) := by decide +kernel
theorem dX7_fork_37 : decode cX7_fork 37 = .ok (.aload_n 0, 1) := by decide +kernel
theorem dX7_fork_38 : decode cX7_fork 38 = .ok (.getfield 25, 3) := by decide +kernel
theorem dX7_fork_41 : decode cX7_fork 41 = .ok (.imul, 1) := by decide +kernel
theorem dX7_fork_42 : decode cX7_fork 42 = .ok (.iload_n 2, 1) := by decide +kernel
theorem dX7_fork_43 : decode cX7_fork 43 = .ok (.iadd, 1) := by decide +kernel
theorem dX7_fork_44 : decode cX7_fork 44 = .ok (.aload_n 0, 1) := by decide +kernel
theorem dX7_fork_45 : decode cX7_fork 45 = .ok (.getfield 29, 3) := by decide +kernel
theorem dX7_fork_48 : decode cX7_fork 48 = .ok (.sipush 160, 3) := by decide +kernel
theorem dX7_fork_51 : decode cX7_fork 51 = .ok (.iload_n 1, 1) := by decide +kernel
theorem dX7_fork_52 : decode cX7_fork 52 = .ok (.imul, 1) := by decide +kernel
theorem dX7_fork_53 : decode cX7_fork 53 = .ok (.iload_n 2, 1) := by decide +kernel
theorem dX7_fork_54 : decode cX7_fork 54 = .ok (.iadd, 1) := by decide +kernel
theorem dX7_fork_55 : decode cX7_fork 55 = .ok (.iaload, 1) := by decide +kernel
theorem dX7_fork_56 : decode cX7_fork 56 = .ok (.iastore, 1) := by decide +kernel
theorem dX7_fork_57 : decode cX7_fork 57 = .ok (.iinc 2 1, 3) := by decide +kernel
theorem dX7_fork_60 : decode cX7_fork 60 = .ok (.goto (-37), 3) := by decide +kernel
theorem dX7_fork_63 : decode cX7_fork 63 = .ok (.iconst 0, 1) := by decide +kernel
theorem dX7_fork_64 : decode cX7_fork 64 = .ok (.istore_n 2, 1) := by decide +kernel
theorem dX7_fork_65 : decode cX7_fork 65 = .ok (.iload_n 2, 1) := by decide +kernel
theorem dX7_fork_66 : decode cX7_fork 66 = .ok (.bipush 12, 2) := by decide +kernel
theorem dX7_fork_68 : decode cX7_fork 68 = .ok (.if_icmp .ge 59, 3) := by decide +kernel
theorem dX7_fork_71 : decode cX7_fork 71 = .ok (.aload_n 0, 1) := by decide +kernel
theorem dX7_fork_72 : decode cX7_fork 72 = .ok (.getfield 32, 3) := by decide +kernel
theorem dX7_fork_75 : decode cX7_fork 75 = .ok (.bipush 12, 2) := by decide +kernel
theorem dX7_fork_77 : decode cX7_fork 77 = .ok (.aload_n 0, 1) := by decide +kernel
theorem dX7_fork_78 : decode cX7_fork 78 = .ok (.getfield 25, 3) := by decide +kernel
theorem dX7_fork_81 : decode cX7_fork 81 = .ok (.imul, 1) := by decide +kernel
theorem dX7_fork_82 : decode cX7_fork 82 = .ok (.iload_n 2, 1) := by decide +kernel
theorem dX7_fork_83 : decode cX7_fork 83 = .ok (.iadd, 1) := by decide +kernel
theorem dX7_fork_84 : decode cX7_fork 84 = .ok (.aload_n 0, 1) := by decide +kernel
theorem dX7_fork_85 : decode cX7_fork 85 = .ok (.getfield 32, 3) := by decide +kernel
theorem dX7_fork_88 : decode cX7_fork 88 = .ok (.bipush 12, 2) := by decide +kernel
theorem dX7_fork_90 : decode cX7_fork 90 = .ok (.iload_n 1, 1) := by decide +kernel
theorem dX7_fork_91 : decode cX7_fork 91 = .ok (.imul, 1) := by decide +kernel
theorem dX7_fork_92 : decode cX7_fork 92 = .ok (.iload_n 2, 1) := by decide +kernel
theorem dX7_fork_93 : decode cX7_fork 93 = .ok (.iadd, 1) := by decide +kernel
theorem dX7_fork_94 : decode cX7_fork 94 = .ok (.laload, 1) := by decide +kernel
theorem dX7_fork_95 : decode cX7_fork 95 = .ok (.lastore, 1) := by decide +kernel
theorem dX7_fork_96 : decode cX7_fork 96 = .ok (.aload_n 0, 1) := by decide +kernel
theorem dX7_fork_97 : decode cX7_fork 97 = .ok (.getfield 36, 3) := by decide +kernel
theorem dX7_fork_100 : decode cX7_fork 100 = .ok (.bipush 12, 2) := by decide +kernel
theorem dX7_fork_102 : decode cX7_fork 102 = .ok (.aload_n 0, 1) := by decide +kernel
theorem dX7_fork_103 : decode cX7_fork 103 = .ok (.getfield 25, 3) := by decide +kernel
theorem dX7_fork_106 : decode cX7_fork 106 = .ok (.imul, 1) := by decide +kernel
theorem dX7_fork_107 : decode cX7_fork 107 = .ok (.iload_n 2, 1) := by decide +kernel
theorem dX7_fork_108 : decode cX7_fork 108 = .ok (.iadd, 1) := by decide +kernel
theorem dX7_fork_109 : decode cX7_fork 109 = .ok (.aload_n 0, 1) := by decide +kernel
theorem dX7_fork_110 : decode cX7_fork 110 = .ok (.getfield 36, 3) := by decide +kernel
theorem dX7_fork_113 : decode cX7_fork 113 = .ok (.bipush 12, 2) := by decide +kernel
theorem dX7_fork_115 : decode cX7_fork 115 = .ok (.iload_n 1, 1) := by decide +kernel
theorem dX7_fork_116 : decode cX7_fork 116 = .ok (.imul, 1) := by decide +kernel
theorem dX7_fork_117 : decode cX7_fork 117 = .ok (.iload_n 2, 1) := by decide +kernel
theorem dX7_fork_118 : decode cX7_fork 118 = .ok (.iadd, 1) := by decide +kernel
theorem dX7_fork_119 : decode cX7_fork 119 = .ok (.baload, 1) := by decide +kernel
theorem dX7_fork_120 : decode cX7_fork 120 = .ok (.bastore, 1) := by decide +kernel
theorem dX7_fork_121 : decode cX7_fork 121 = .ok (.iinc 2 1, 3) := by decide +kernel
theorem dX7_fork_124 : decode cX7_fork 124 = .ok (.goto (-59), 3) := by decide +kernel
theorem dX7_fork_127 : decode cX7_fork 127 = .ok (.aload_n 0, 1) := by decide +kernel
theorem dX7_fork_128 : decode cX7_fork 128 = .ok (.dup, 1) := by decide +kernel
theorem dX7_fork_129 : decode cX7_fork 129 = .ok (.getfield 25, 3) := by decide +kernel
theorem dX7_fork_132 : decode cX7_fork 132 = .ok (.iconst 1, 1) := by decide +kernel
theorem dX7_fork_133 : decode cX7_fork 133 = .ok (.iadd, 1) := by decide +kernel
theorem dX7_fork_134 : decode cX7_fork 134 = .ok (.putfield 25, 3) := by decide +kernel
theorem dX7_fork_137 : decode cX7_fork 137 = .ok (.aload_n 0, 1) := by decide +kernel
theorem dX7_fork_138 : decode cX7_fork 138 = .ok (.getfield 25, 3) := by decide +kernel
theorem dX7_fork_141 : decode cX7_fork 141 = .ok (.iconst 1, 1) := by decide +kernel
theorem dX7_fork_142 : decode cX7_fork 142 = .ok (.isub, 1) := by decide +kernel
theorem dX7_fork_143 : decode cX7_fork 143 = .ok (.ireturn, 1) := by decide +kernel
theorem dX7_isFit_0 : decode cX7_isFit 0 = .ok (.iload_n 2, 1) := by decide +kernel
theorem dX7_isFit_1 : decode cX7_isFit 1 = .ok (.iconst 0, 1) := by decide +kernel
theorem dX7_isFit_2 : decode cX7_isFit 2 = .ok (.aload_n 0, 1) := by decide +kernel
theorem dX7_isFit_3 : decode cX7_isFit 3 = .ok (.getfield 89, 3) := by decide +kernel
theorem dX7_isFit_6 : decode cX7_isFit 6 = .ok (.iconst 1, 1) := by decide +kernel
theorem dX7_isFit_7 : decode cX7_isFit 7 = .ok (.isub, 1) := by decide +kernel
theorem dX7_isFit_8 : decode cX7_isFit 8 = .ok (.invokestatic 85, 3) := by decide +kernel
theorem dX7_isFit_11 : decode cX7_isFit 11 = .ok (.ifCond .eq 12, 3) := by decide +kernel
theorem dX7_isFit_14 : decode cX7_isFit 14 = .ok (.iload_n 3, 1) := by decide +kernel
theorem dX7_isFit_15 : decode cX7_isFit 15 = .ok (.iconst 0, 1) := by decide +kernel
theorem dX7_isFit_16 : decode cX7_isFit 16 = .ok (.iconst 2, 1) := by decide +kernel
theorem dX7_isFit_17 : decode cX7_isFit 17 = .ok (.invokestatic 85, 3) := by decide +kernel
theorem dX7_isFit_20 : decode cX7_isFit 20 = .ok (.ifCond .ne 5, 3) := by decide +kernel
theorem dX7_isFit_23 : decode cX7_isFit 23 = .ok (.iconst 0, 1) := by decide +kernel
theorem dX7_isFit_24 : decode cX7_isFit 24 = .ok (.ireturn, 1) := by decide +kernel
theorem dX7_isFit_25 : decode cX7_isFit 25 = .ok (.iload_n 3, 1) := by decide +kernel
theorem dX7_isFit_26 : decode cX7_isFit 26 = .ok (.iconst 2, 1) := by decide +kernel
theorem dX7_isFit_27 : decode cX7_isFit 27 = .ok (.if_icmp .ge 30, 3) := by decide +kernel
theorem dX7_isFit_30 : decode cX7_isFit 30 = .ok (.iload_n 3, 1) := by decide +kernel
theorem dX7_isFit_31 : decode cX7_isFit 31 = .ok (.ifCond .ne 17, 3) := by decide +kernel
theorem dX7_isFit_34 : decode cX7_isFit 34 = .ok (.iload 4, 2) := by decide +kernel
theorem dX7_isFit_36 : decode cX7_isFit 36 = .ok (.sipush (-1000), 3) := by decide +kernel
theorem dX7_isFit_39 : decode cX7_isFit 39 = .ok (.sipush 1000, 3) := by decide +kernel
theorem dX7_isFit_42 : decode cX7_isFit 42 = .ok (.invokestatic 85, 3) := by decide +kernel
theorem dX7_isFit_45 : decode cX7_isFit 45 = .ok (.goto 11, 3) := by decide +kernel
theorem dX7_isFit_48 : decode cX7_isFit 48 = .ok (.iload 4, 2) := by decide +kernel
theorem dX7_isFit_50 : decode cX7_isFit 50 = .ok (.iconst 0, 1) := by decide +kernel
theorem dX7_isFit_51 : decode cX7_isFit 51 = .ok (.bipush 20, 2) := by decide +kernel
theorem dX7_isFit_53 : decode cX7_isFit 53 = .ok (.invokestatic 85, 3) := by decide +kernel
theorem dX7_isFit_56 : decode cX7_isFit 56 = .ok (.ireturn, 1) := by decide +kernel
theorem dX7_isFit_57 : decode cX7_isFit 57 = .ok (.iload 4, 2) := by decide +kernel
theorem dX7_isFit_59 : decode cX7_isFit 59 = .ok (.iconst (-1), 1) := by decide +kernel
theorem dX7_isFit_60 : decode cX7_isFit 60 = .ok (.aload_n 0, 1) := by decide +kernel
theorem dX7_isFit_61 : decode cX7_isFit 61 = .ok (.getfield 89, 3) := by decide +kernel
theorem dX7_isFit_64 : decode cX7_isFit 64 = .ok (.iconst 1, 1) := by decide +kernel
end
section
theorem dX7_isFit_65 : decode cX7_isFit 65 = .ok (.isub, 1) := by decide +kernel
theorem dX7_isFit_66 : decode cX7_isFit 66 = .ok (.invokestatic 85, 3) := by decide +kernel
theorem dX7_isFit_69 : decode cX7_isFit 69 = .ok (.ifCond .ne 5, 3) := by decide +kernel
theorem dX7_isFit_72 : decode cX7_isFit 72 = .ok (.iconst 0, 1) := by decide +kernel
theorem dX7_isFit_73 : decode cX7_isFit 73 = .ok (.ireturn, 1) := by decide +kernel
theorem dX7_isFit_74 : decode cX7_isFit 74 = .ok (.iload 4, 2) := by decide +kernel
theorem dX7_isFit_76 : decode cX7_isFit 76 = .ok (.istore 5, 2) := by decide +kernel
theorem dX7_isFit_78 : decode cX7_isFit 78 = .ok (.iload 5, 2) := by decide +kernel
theorem dX7_isFit_80 : decode cX7_isFit 80 = .ok (.ifCond .lt 27, 3) := by decide +kernel
theorem dX7_isFit_83 : decode cX7_isFit 83 = .ok (.iload 5, 2) := by decide +kernel
theorem dX7_isFit_85 : decode cX7_isFit 85 = .ok (.iload_n 2, 1) := by decide +kernel
theorem dX7_isFit_86 : decode cX7_isFit 86 = .ok (.if_icmp .eq 21, 3) := by decide +kernel
theorem dX7_isFit_89 : decode cX7_isFit 89 = .ok (.aload_n 0, 1) := by decide +kernel
theorem dX7_isFit_90 : decode cX7_isFit 90 = .ok (.getfield 29, 3) := by decide +kernel
theorem dX7_isFit_93 : decode cX7_isFit 93 = .ok (.aload_n 0, 1) := by decide +kernel
theorem dX7_isFit_94 : decode cX7_isFit 94 = .ok (.iload_n 1, 1) := by decide +kernel
theorem dX7_isFit_95 : decode cX7_isFit 95 = .ok (.iload 5, 2) := by decide +kernel
theorem dX7_isFit_97 : decode cX7_isFit 97 = .ok (.iconst 2, 1) := by decide +kernel
theorem dX7_isFit_98 : decode cX7_isFit 98 = .ok (.invokevirtual 92, 3) := by decide +kernel
theorem dX7_isFit_101 : decode cX7_isFit 101 = .ok (.iaload, 1) := by decide +kernel
theorem dX7_isFit_102 : decode cX7_isFit 102 = .ok (.istore 5, 2) := by decide +kernel
theorem dX7_isFit_104 : decode cX7_isFit 104 = .ok (.goto (-26), 3) := by decide +kernel
theorem dX7_isFit_107 : decode cX7_isFit 107 = .ok (.iload 5, 2) := by decide +kernel
theorem dX7_isFit_109 : decode cX7_isFit 109 = .ok (.iload_n 2, 1) := by decide +kernel
theorem dX7_isFit_110 : decode cX7_isFit 110 = .ok (.if_icmp .eq 7, 3) := by decide +kernel
theorem dX7_isFit_113 : decode cX7_isFit 113 = .ok (.iconst 1, 1) := by decide +kernel
theorem dX7_isFit_114 : decode cX7_isFit 114 = .ok (.goto 4, 3) := by decide +kernel
theorem dX7_isFit_117 : decode cX7_isFit 117 = .ok (.iconst 0, 1) := by decide +kernel
theorem dX7_isFit_118 : decode cX7_isFit 118 = .ok (.ireturn, 1) := by decide +kernel
theorem dX7_put_0 : decode cX7_put 0 = .ok (.aload_n 0, 1) := by decide +kernel
theorem dX7_put_1 : decode cX7_put 1 = .ok (.getfield 29, 3) := by decide +kernel
theorem dX7_put_4 : decode cX7_put 4 = .ok (.aload_n 0, 1) := by decide +kernel
theorem dX7_put_5 : decode cX7_put 5 = .ok (.iload_n 1, 1) := by decide +kernel
theorem dX7_put_6 : decode cX7_put 6 = .ok (.iload_n 2, 1) := by decide +kernel
theorem dX7_put_7 : decode cX7_put 7 = .ok (.iload_n 3, 1) := by decide +kernel
theorem dX7_put_8 : decode cX7_put 8 = .ok (.invokevirtual 92, 3) := by decide +kernel
theorem dX7_put_11 : decode cX7_put 11 = .ok (.iload 4, 2) := by decide +kernel
theorem dX7_put_13 : decode cX7_put 13 = .ok (.iastore, 1) := by decide +kernel
theorem dX7_put_14 : decode cX7_put 14 = .ok (.aload_n 0, 1) := by decide +kernel
theorem dX7_put_15 : decode cX7_put 15 = .ok (.iload_n 1, 1) := by decide +kernel
theorem dX7_put_16 : decode cX7_put 16 = .ok (.invokevirtual 120, 3) := by decide +kernel
theorem dX7_put_19 : decode cX7_put 19 = .ok (.return_, 1) := by decide +kernel
theorem dX7_firstFalse_0 : decode cX7_firstFalse 0 = .ok (.iconst 0, 1) := by decide +kernel
theorem dX7_firstFalse_1 : decode cX7_firstFalse 1 = .ok (.istore_n 2, 1) := by decide +kernel
theorem dX7_firstFalse_2 : decode cX7_firstFalse 2 = .ok (.iload_n 2, 1) := by decide +kernel
theorem dX7_firstFalse_3 : decode cX7_firstFalse 3 = .ok (.aload_n 0, 1) := by decide +kernel
theorem dX7_firstFalse_4 : decode cX7_firstFalse 4 = .ok (.getfield 96, 3) := by decide +kernel
theorem dX7_firstFalse_7 : decode cX7_firstFalse 7 = .ok (.if_icmp .ge 32, 3) := by decide +kernel
theorem dX7_firstFalse_10 : decode cX7_firstFalse 10 = .ok (.aload_n 0, 1) := by decide +kernel
theorem dX7_firstFalse_11 : decode cX7_firstFalse 11 = .ok (.getfield 32, 3) := by decide +kernel
theorem dX7_firstFalse_14 : decode cX7_firstFalse 14 = .ok (.bipush 12, 2) := by decide +kernel
theorem dX7_firstFalse_16 : decode cX7_firstFalse 16 = .ok (.iload_n 1, 1) := by decide +kernel
theorem dX7_firstFalse_17 : decode cX7_firstFalse 17 = .ok (.imul, 1) := by decide +kernel
theorem dX7_firstFalse_18 : decode cX7_firstFalse 18 = .ok (.iload_n 2, 1) := by decide +kernel
theorem dX7_firstFalse_19 : decode cX7_firstFalse 19 = .ok (.iadd, 1) := by decide +kernel
theorem dX7_firstFalse_20 : decode cX7_firstFalse 20 = .ok (.laload, 1) := by decide +kernel
theorem dX7_firstFalse_21 : decode cX7_firstFalse 21 = .ok (.aload_n 0, 1) := by decide +kernel
theorem dX7_firstFalse_22 : decode cX7_firstFalse 22 = .ok (.iload_n 1, 1) := by decide +kernel
theorem dX7_firstFalse_23 : decode cX7_firstFalse 23 = .ok (.iload_n 2, 1) := by decide +kernel
theorem dX7_firstFalse_24 : decode cX7_firstFalse 24 = .ok (.invokevirtual 99, 3) := by decide +kernel
theorem dX7_firstFalse_27 : decode cX7_firstFalse 27 = .ok (.lcmp, 1) := by decide +kernel
theorem dX7_firstFalse_28 : decode cX7_firstFalse 28 = .ok (.ifCond .eq 5, 3) := by decide +kernel
theorem dX7_firstFalse_31 : decode cX7_firstFalse 31 = .ok (.iload_n 2, 1) := by decide +kernel
theorem dX7_firstFalse_32 : decode cX7_firstFalse 32 = .ok (.ireturn, 1) := by decide +kernel
theorem dX7_firstFalse_33 : decode cX7_firstFalse 33 = .ok (.iinc 2 1, 3) := by decide +kernel
theorem dX7_firstFalse_36 : decode cX7_firstFalse 36 = .ok (.goto (-34), 3) := by decide +kernel
theorem dX7_firstFalse_39 : decode cX7_firstFalse 39 = .ok (.iconst (-1), 1) := by decide +kernel
theorem dX7_firstFalse_40 : decode cX7_firstFalse 40 = .ok (.ireturn, 1) := by decide +kernel
theorem dX7_know_0 : decode cX7_know 0 = .ok (.aload_n 0, 1) := by decide +kernel
theorem dX7_know_1 : decode cX7_know 1 = .ok (.getfield 55, 3) := by decide +kernel
theorem dX7_know_4 : decode cX7_know 4 = .ok (.iload_n 1, 1) := by decide +kernel
theorem dX7_know_5 : decode cX7_know 5 = .ok (.iaload, 1) := by decide +kernel
theorem dX7_know_6 : decode cX7_know 6 = .ok (.bipush 60, 2) := by decide +kernel
theorem dX7_know_8 : decode cX7_know 8 = .ok (.if_icmp .ne 160, 3) := by decide +kernel
theorem dX7_know_11 : decode cX7_know 11 = .ok (.bipush 60, 2) := by decide +kernel
theorem dX7_know_13 : decode cX7_know 13 = .ok (.iload_n 1, 1) := by decide +kernel
theorem dX7_know_14 : decode cX7_know 14 = .ok (.imul, 1) := by decide +kernel
theorem dX7_know_15 : decode cX7_know 15 = .ok (.istore 5, 2) := by decide +kernel
theorem dX7_know_17 : decode cX7_know 17 = .ok (.iload 5, 2) := by decide +kernel
theorem dX7_know_19 : decode cX7_know 19 = .ok (.iconst 1, 1) := by decide +kernel
theorem dX7_know_20 : decode cX7_know 20 = .ok (.iadd, 1) := by decide +kernel
theorem dX7_know_21 : decode cX7_know 21 = .ok (.bipush 60, 2) := by decide +kernel
theorem dX7_know_23 : decode cX7_know 23 = .ok (.iload_n 1, 1) := by decide +kernel
theorem dX7_know_24 : decode cX7_know 24 = .ok (.imul, 1) := by decide +kernel
theorem dX7_know_25 : decode cX7_know 25 = .ok (.bipush 60, 2) := by decide +kernel
theorem dX7_know_27 : decode cX7_know 27 = .ok (.iadd, 1) := by decide +kernel
theorem dX7_know_28 : decode cX7_know 28 = .ok (.if_icmp .ge 102, 3) := by decide +kernel
theorem dX7_know_31 : decode cX7_know 31 = .ok (.aload_n 0, 1) := by decide +kernel
theorem dX7_know_32 : decode cX7_know 32 = .ok (.getfield 58, 3) := by decide +kernel
theorem dX7_know_35 : decode cX7_know 35 = .ok (.iload 5, 2) := by decide +kernel
theorem dX7_know_37 : decode cX7_know 37 = .ok (.aload_n 0, 1) := by decide +kernel
theorem dX7_know_38 : decode cX7_know 38 = .ok (.getfield 58, 3) := by decide +kernel
theorem dX7_know_41 : decode cX7_know 41 = .ok (.iload 5, 2) := by decide +kernel
theorem dX7_know_43 : decode cX7_know 43 = .ok (.iconst 1, 1) := by decide +kernel
theorem dX7_know_44 : decode cX7_know 44 = .ok (.iadd, 1) := by decide +kernel
theorem dX7_know_45 : decode cX7_know 45 = .ok (.iaload, 1) := by decide +kernel
theorem dX7_know_46 : decode cX7_know 46 = .ok (.iastore, 1) := by decide +kernel
theorem dX7_know_47 : decode cX7_know 47 = .ok (.aload_n 0, 1) := by decide +kernel
theorem dX7_know_48 : decode cX7_know 48 = .ok (.getfield 61, 3) := by decide +kernel
theorem dX7_know_51 : decode cX7_know 51 = .ok (.iload 5, 2) := by decide +kernel
theorem dX7_know_53 : decode cX7_know 53 = .ok (.aload_n 0, 1) := by decide +kernel
theorem dX7_know_54 : decode cX7_know 54 = .ok (.getfield 61, 3) := by decide +kernel
theorem dX7_know_57 : decode cX7_know 57 = .ok (.iload 5, 2) := by decide +kernel
theorem dX7_know_59 : decode cX7_know 59 = .ok (.iconst 1, 1) := by decide +kernel
theorem dX7_know_60 : decode cX7_know 60 = .ok (.iadd, 1) := by decide +kernel
theorem dX7_know_61 : decode cX7_know 61 = .ok (.iaload, 1) := by decide +kernel
theorem dX7_know_62 : decode cX7_know 62 = .ok (.iastore, 1) := by decide +kernel
theorem dX7_know_63 : decode cX7_know 63 = .ok (.aload_n 0, 1) := by decide +kernel
theorem dX7_know_64 : decode cX7_know 64 = .ok (.getfield 64, 3) := by decide +kernel
theorem dX7_know_67 : decode cX7_know 67 = .ok (.iload 5, 2) := by decide +kernel
theorem dX7_know_69 : decode cX7_know 69 = .ok (.aload_n 0, 1) := by decide +kernel
theorem dX7_know_70 : decode cX7_know 70 = .ok (.getfield 64, 3) := by decide +kernel
theorem dX7_know_73 : decode cX7_know 73 = .ok (.iload 5, 2) := by decide +kernel
theorem dX7_know_75 : decode cX7_know 75 = .ok (.iconst 1, 1) := by decide +kernel
theorem dX7_know_76 : decode cX7_know 76 = .ok (.iadd, 1) := by decide +kernel
theorem dX7_know_77 : decode cX7_know 77 = .ok (.iaload, 1) := by decide +kernel
theorem dX7_know_78 : decode cX7_know 78 = .ok (.iastore, 1) := by decide +kernel
theorem dX7_know_79 : decode cX7_know 79 = .ok (.iconst 0, 1) := by decide +kernel
theorem dX7_know_80 : decode cX7_know 80 = .ok (.istore 6, 2) := by decide +kernel
theorem dX7_know_82 : decode cX7_know 82 = .ok (.iload 6, 2) := by decide +kernel
theorem dX7_know_84 : decode cX7_know 84 = .ok (.bipush 12, 2) := by decide +kernel
theorem dX7_know_86 : decode cX7_know 86 = .ok (.if_icmp .ge 38, 3) := by decide +kernel
theorem dX7_know_89 : decode cX7_know 89 = .ok (.aload_n 0, 1) := by decide +kernel
theorem dX7_know_90 : decode cX7_know 90 = .ok (.getfield 67, 3) := by decide +kernel
theorem dX7_know_93 : decode cX7_know 93 = .ok (.bipush 12, 2) := by decide +kernel
theorem dX7_know_95 : decode cX7_know 95 = .ok (.iload 5, 2) := by decide +kernel
theorem dX7_know_97 : decode cX7_know 97 = .ok (.imul, 1) := by decide +kernel
theorem dX7_know_98 : decode cX7_know 98 = .ok (.iload 6, 2) := by decide +kernel
theorem dX7_know_100 : decode cX7_know 100 = .ok (.iadd, 1) := by decide +kernel
theorem dX7_know_101 : decode cX7_know 101 = .ok (.aload_n 0, 1) := by decide +kernel
theorem dX7_know_102 : decode cX7_know 102 = .ok (.getfield 67, 3) := by decide +kernel
theorem dX7_know_105 : decode cX7_know 105 = .ok (.bipush 12, 2) := by decide +kernel
theorem dX7_know_107 : decode cX7_know 107 = .ok (.iload 5, 2) := by decide +kernel
theorem dX7_know_109 : decode cX7_know 109 = .ok (.imul, 1) := by decide +kernel
theorem dX7_know_110 : decode cX7_know 110 = .ok (.bipush 12, 2) := by decide +kernel
theorem dX7_know_112 : decode cX7_know 112 = .ok (.iadd, 1) := by decide +kernel
theorem dX7_know_113 : decode cX7_know 113 = .ok (.iload 6, 2) := by decide +kernel
theorem dX7_know_115 : decode cX7_know 115 = .ok (.iadd, 1) := by decide +kernel
theorem dX7_know_116 : decode cX7_know 116 = .ok (.laload, 1) := by decide +kernel
theorem dX7_know_117 : decode cX7_know 117 = .ok (.lastore, 1) := by decide +kernel
theorem dX7_know_118 : decode cX7_know 118 = .ok (.iinc 6 1, 3) := by decide +kernel
theorem dX7_know_121 : decode cX7_know 121 = .ok (.goto (-39), 3) := by decide +kernel
theorem dX7_know_124 : decode cX7_know 124 = .ok (.iinc 5 1, 3) := by decide +kernel
theorem dX7_know_127 : decode cX7_know 127 = .ok (.goto (-110), 3) := by decide +kernel
theorem dX7_know_130 : decode cX7_know 130 = .ok (.aload_n 0, 1) := by decide +kernel
theorem dX7_know_131 : decode cX7_know 131 = .ok (.getfield 55, 3) := by decide +kernel
theorem dX7_know_134 : decode cX7_know 134 = .ok (.iload_n 1, 1) := by decide +kernel
theorem dX7_know_135 : decode cX7_know 135 = .ok (.dup2, 1) := by decide +kernel
theorem dX7_know_136 : decode cX7_know 136 = .ok (.iaload, 1) := by decide +kernel
theorem dX7_know_137 : decode cX7_know 137 = .ok (.iconst 1, 1) := by decide +kernel
theorem dX7_know_138 : decode cX7_know 138 = .ok (.isub, 1) := by decide +kernel
theorem dX7_know_139 : decode cX7_know 139 = .ok (.iastore, 1) := by decide +kernel
theorem dX7_know_140 : decode cX7_know 140 = .ok (.aload_n 0, 1) := by decide +kernel
theorem dX7_know_141 : decode cX7_know 141 = .ok (.getfield 52, 3) := by decide +kernel
theorem dX7_know_144 : decode cX7_know 144 = .ok (.iload_n 1, 1) := by decide +kernel
theorem dX7_know_145 : decode cX7_know 145 = .ok (.aload_n 0, 1) := by decide +kernel
theorem dX7_know_146 : decode cX7_know 146 = .ok (.getfield 52, 3) := by decide +kernel
theorem dX7_know_149 : decode cX7_know 149 = .ok (.iload_n 1, 1) := by decide +kernel
theorem dX7_know_150 : decode cX7_know 150 = .ok (.iaload, 1) := by decide +kernel
theorem dX7_know_151 : decode cX7_know 151 = .ok (.bipush 60, 2) := by decide +kernel
theorem dX7_know_153 : decode cX7_know 153 = .ok (.if_icmp .ne 8, 3) := by decide +kernel
theorem dX7_know_156 : decode cX7_know 156 = .ok (.bipush 59, 2) := by decide +kernel
theorem dX7_know_158 : decode cX7_know 158 = .ok (.goto 9, 3) := by decide +kernel
theorem dX7_know_161 : decode cX7_know 161 = .ok (.aload_n 0, 1) := by decide +kernel
theorem dX7_know_162 : decode cX7_know 162 = .ok (.getfield 52, 3) := by decide +kernel
theorem dX7_know_165 : decode cX7_know 165 = .ok (.iload_n 1, 1) := by decide +kernel
theorem dX7_know_166 : decode cX7_know 166 = .ok (.iaload, 1) := by decide +kernel
theorem dX7_know_167 : decode cX7_know 167 = .ok (.iastore, 1) := by decide +kernel
theorem dX7_know_168 : decode cX7_know 168 = .ok (.bipush 60, 2) := by decide +kernel
theorem dX7_know_170 : decode cX7_know 170 = .ok (.iload_n 1, 1) := by decide +kernel
theorem dX7_know_171 : decode cX7_know 171 = .ok (.imul, 1) := by decide +kernel
theorem dX7_know_172 : decode cX7_know 172 = .ok (.aload_n 0, 1) := by decide +kernel
theorem dX7_know_173 : decode cX7_know 173 = .ok (.getfield 55, 3) := by decide +kernel
theorem dX7_know_176 : decode cX7_know 176 = .ok (.iload_n 1, 1) := by decide +kernel
theorem dX7_know_177 : decode cX7_know 177 = .ok (.iaload, 1) := by decide +kernel
theorem dX7_know_178 : decode cX7_know 178 = .ok (.iadd, 1) := by decide +kernel
theorem dX7_know_179 : decode cX7_know 179 = .ok (.istore 5, 2) := by decide +kernel
theorem dX7_know_181 : decode cX7_know 181 = .ok (.aload_n 0, 1) := by decide +kernel
theorem dX7_know_182 : decode cX7_know 182 = .ok (.getfield 58, 3) := by decide +kernel
theorem dX7_know_185 : decode cX7_know 185 = .ok (.iload 5, 2) := by decide +kernel
theorem dX7_know_187 : decode cX7_know 187 = .ok (.iload_n 2, 1) := by decide +kernel
theorem dX7_know_188 : decode cX7_know 188 = .ok (.iastore, 1) := by decide +kernel
theorem dX7_know_189 : decode cX7_know 189 = .ok (.aload_n 0, 1) := by decide +kernel
theorem dX7_know_190 : decode cX7_know 190 = .ok (.getfield 61, 3) := by decide +kernel
theorem dX7_know_193 : decode cX7_know 193 = .ok (.iload 5, 2) := by decide +kernel
theorem dX7_know_195 : decode cX7_know 195 = .ok (.iload_n 3, 1) := by decide +kernel
theorem dX7_know_196 : decode cX7_know 196 = .ok (.iastore, 1) := by decide +kernel
theorem dX7_know_197 : decode cX7_know 197 = .ok (.aload_n 0, 1) := by decide +kernel
theorem dX7_know_198 : decode cX7_know 198 = .ok (.getfield 64, 3) := by decide +kernel
theorem dX7_know_201 : decode cX7_know 201 = .ok (.iload 5, 2) := by decide +kernel
theorem dX7_know_203 : decode cX7_know 203 = .ok (.iload 4, 2) := by decide +kernel
theorem dX7_know_205 : decode cX7_know 205 = .ok (.iastore, 1) := by decide +kernel
theorem dX7_know_206 : decode cX7_know 206 = .ok (.iconst 0, 1) := by decide +kernel
theorem dX7_know_207 : decode cX7_know 207 = .ok (.istore 6, 2) := by decide +kernel
theorem dX7_know_209 : decode cX7_know 209 = .ok (.iload 6, 2) := by decide +kernel
theorem dX7_know_211 : decode cX7_know 211 = .ok (.bipush 12, 2) := by decide +kernel
theorem dX7_know_213 : decode cX7_know 213 = .ok (.if_icmp .ge 34, 3) := by decide +kernel
theorem dX7_know_216 : decode cX7_know 216 = .ok (.aload_n 0, 1) := by decide +kernel
theorem dX7_know_217 : decode cX7_know 217 = .ok (.getfield 67, 3) := by decide +kernel
theorem dX7_know_220 : decode cX7_know 220 = .ok (.bipush 12, 2) := by decide +kernel
theorem dX7_know_222 : decode cX7_know 222 = .ok (.iload 5, 2) := by decide +kernel
theorem dX7_know_224 : decode cX7_know 224 = .ok (.imul, 1) := by decide +kernel
theorem dX7_know_225 : decode cX7_know 225 = .ok (.iload 6, 2) := by decide +kernel
theorem dX7_know_227 : decode cX7_know 227 = .ok (.iadd, 1) := by decide +kernel
theorem dX7_know_228 : decode cX7_know 228 = .ok (.aload_n 0, 1) := by decide +kernel
theorem dX7_know_229 : decode cX7_know 229 = .ok (.getfield 32, 3) := by decide +kernel
theorem dX7_know_232 : decode cX7_know 232 = .ok (.bipush 12, 2) := by decide +kernel
theorem dX7_know_234 : decode cX7_know 234 = .ok (.iload_n 1, 1) := by decide +kernel
theorem dX7_know_235 : decode cX7_know 235 = .ok (.imul, 1) := by decide +kernel
theorem dX7_know_236 : decode cX7_know 236 = .ok (.iload 6, 2) := by decide +kernel
theorem dX7_know_238 : decode cX7_know 238 = .ok (.iadd, 1) := by decide +kernel
theorem dX7_know_239 : decode cX7_know 239 = .ok (.laload, 1) := by decide +kernel
theorem dX7_know_240 : decode cX7_know 240 = .ok (.lastore, 1) := by decide +kernel
theorem dX7_know_241 : decode cX7_know 241 = .ok (.iinc 6 1, 3) := by decide +kernel
theorem dX7_know_244 : decode cX7_know 244 = .ok (.goto (-35), 3) := by decide +kernel
theorem dX7_know_247 : decode cX7_know 247 = .ok (.aload_n 0, 1) := by decide +kernel
theorem dX7_know_248 : decode cX7_know 248 = .ok (.getfield 55, 3) := by decide +kernel
theorem dX7_know_251 : decode cX7_know 251 = .ok (.iload_n 1, 1) := by decide +kernel
theorem dX7_know_252 : decode cX7_know 252 = .ok (.dup2, 1) := by decide +kernel
theorem dX7_know_253 : decode cX7_know 253 = .ok (.iaload, 1) := by decide +kernel
theorem dX7_know_254 : decode cX7_know 254 = .ok (.iconst 1, 1) := by decide +kernel
theorem dX7_know_255 : decode cX7_know 255 = .ok (.iadd, 1) := by decide +kernel
theorem dX7_know_256 : decode cX7_know 256 = .ok (.iastore, 1) := by decide +kernel
theorem dX7_know_257 : decode cX7_know 257 = .ok (.aload_n 0, 1) := by decide +kernel
theorem dX7_know_258 : decode cX7_know 258 = .ok (.getfield 52, 3) := by decide +kernel
theorem dX7_know_261 : decode cX7_know 261 = .ok (.iload_n 1, 1) := by decide +kernel
theorem dX7_know_262 : decode cX7_know 262 = .ok (.dup2, 1) := by decide +kernel
theorem dX7_know_263 : decode cX7_know 263 = .ok (.iaload, 1) := by decide +kernel
theorem dX7_know_264 : decode cX7_know 264 = .ok (.aload_n 0, 1) := by decide +kernel
theorem dX7_know_265 : decode cX7_know 265 = .ok (.getfield 49, 3) := by decide +kernel
theorem dX7_know_268 : decode cX7_know 268 = .ok (.iload_n 1, 1) := by decide +kernel
theorem dX7_know_269 : decode cX7_know 269 = .ok (.baload, 1) := by decide +kernel
theorem dX7_know_270 : decode cX7_know 270 = .ok (.ifCond .eq 7, 3) := by decide +kernel
theorem dX7_know_273 : decode cX7_know 273 = .ok (.iconst 1, 1) := by decide +kernel
theorem dX7_know_274 : decode cX7_know 274 = .ok (.goto 4, 3) := by decide +kernel
theorem dX7_know_277 : decode cX7_know 277 = .ok (.iconst 0, 1) := by decide +kernel
theorem dX7_know_278 : decode cX7_know 278 = .ok (.iadd, 1) := by decide +kernel
theorem dX7_know_279 : decode cX7_know 279 = .ok (.iastore, 1) := by decide +kernel
theorem dX7_know_280 : decode cX7_know 280 = .ok (.return_, 1) := by decide +kernel
theorem dX7_change_0 : decode cX7_change 0 = .ok (.aload_n 0, 1) := by decide +kernel
theorem dX7_change_1 : decode cX7_change 1 = .ok (.iload_n 1, 1) := by decide +kernel
theorem dX7_change_2 : decode cX7_change 2 = .ok (.invokevirtual 113, 3) := by decide +kernel
theorem dX7_change_5 : decode cX7_change 5 = .ok (.ifCond .eq 15, 3) := by decide +kernel
theorem dX7_change_8 : decode cX7_change 8 = .ok (.aload_n 0, 1) := by decide +kernel
theorem dX7_change_9 : decode cX7_change 9 = .ok (.iload_n 1, 1) := by decide +kernel
theorem dX7_change_10 : decode cX7_change 10 = .ok (.iload_n 2, 1) := by decide +kernel
theorem dX7_change_11 : decode cX7_change 11 = .ok (.iload_n 3, 1) := by decide +kernel
theorem dX7_change_12 : decode cX7_change 12 = .ok (.iload 4, 2) := by decide +kernel
theorem dX7_change_14 : decode cX7_change 14 = .ok (.invokevirtual 123, 3) := by decide +kernel
theorem dX7_change_17 : decode cX7_change 17 = .ok (.ifCond .ne 5, 3) := by decide +kernel
theorem dX7_change_20 : decode cX7_change 20 = .ok (.iconst (-1), 1) := by decide +kernel
theorem dX7_change_21 : decode cX7_change 21 = .ok (.ireturn, 1) := by decide +kernel
theorem dX7_change_22 : decode cX7_change 22 = .ok (.aload_n 0, 1) := by decide +kernel
theorem dX7_change_23 : decode cX7_change 23 = .ok (.iload_n 1, 1) := by decide +kernel
theorem dX7_change_24 : decode cX7_change 24 = .ok (.invokevirtual 107, 3) := by decide +kernel
theorem dX7_change_27 : decode cX7_change 27 = .ok (.aload_n 0, 1) := by decide +kernel
theorem dX7_change_28 : decode cX7_change 28 = .ok (.iload_n 1, 1) := by decide +kernel
theorem dX7_change_29 : decode cX7_change 29 = .ok (.iload_n 2, 1) := by decide +kernel
theorem dX7_change_30 : decode cX7_change 30 = .ok (.iload_n 3, 1) := by decide +kernel
theorem dX7_change_31 : decode cX7_change 31 = .ok (.aload_n 0, 1) := by decide +kernel
theorem dX7_change_32 : decode cX7_change 32 = .ok (.getfield 79, 3) := by decide +kernel
theorem dX7_change_35 : decode cX7_change 35 = .ok (.iconst 4, 1) := by decide +kernel
theorem dX7_change_36 : decode cX7_change 36 = .ok (.iload_n 2, 1) := by decide +kernel
theorem dX7_change_37 : decode cX7_change 37 = .ok (.imul, 1) := by decide +kernel
theorem dX7_change_38 : decode cX7_change 38 = .ok (.iload_n 3, 1) := by decide +kernel
theorem dX7_change_39 : decode cX7_change 39 = .ok (.iadd, 1) := by decide +kernel
theorem dX7_change_40 : decode cX7_change 40 = .ok (.iaload, 1) := by decide +kernel
theorem dX7_change_41 : decode cX7_change 41 = .ok (.invokevirtual 127, 3) := by decide +kernel
theorem dX7_change_44 : decode cX7_change 44 = .ok (.aload_n 0, 1) := by decide +kernel
theorem dX7_change_45 : decode cX7_change 45 = .ok (.iload_n 1, 1) := by decide +kernel
theorem dX7_change_46 : decode cX7_change 46 = .ok (.iload_n 2, 1) := by decide +kernel
theorem dX7_change_47 : decode cX7_change 47 = .ok (.iload_n 3, 1) := by decide +kernel
theorem dX7_change_48 : decode cX7_change 48 = .ok (.iload 4, 2) := by decide +kernel
theorem dX7_change_50 : decode cX7_change 50 = .ok (.invokevirtual 131, 3) := by decide +kernel
theorem dX7_change_53 : decode cX7_change 53 = .ok (.iconst 0, 1) := by decide +kernel
theorem dX7_change_54 : decode cX7_change 54 = .ok (.istore 5, 2) := by decide +kernel
theorem dX7_change_56 : decode cX7_change 56 = .ok (.iload 5, 2) := by decide +kernel
theorem dX7_change_58 : decode cX7_change 58 = .ok (.aload_n 0, 1) := by decide +kernel
theorem dX7_change_59 : decode cX7_change 59 = .ok (.getfield 96, 3) := by decide +kernel
theorem dX7_change_62 : decode cX7_change 62 = .ok (.if_icmp .ge 58, 3) := by decide +kernel
theorem dX7_change_65 : decode cX7_change 65 = .ok (.aload_n 0, 1) := by decide +kernel
theorem dX7_change_66 : decode cX7_change 66 = .ok (.getfield 32, 3) := by decide +kernel
theorem dX7_change_69 : decode cX7_change 69 = .ok (.bipush 12, 2) := by decide +kernel
theorem dX7_change_71 : decode cX7_change 71 = .ok (.iload_n 1, 1) := by decide +kernel
theorem dX7_change_72 : decode cX7_change 72 = .ok (.imul, 1) := by decide +kernel
theorem dX7_change_73 : decode cX7_change 73 = .ok (.iload 5, 2) := by decide +kernel
theorem dX7_change_75 : decode cX7_change 75 = .ok (.iadd, 1) := by decide +kernel
theorem dX7_change_76 : decode cX7_change 76 = .ok (.dup2, 1) := by decide +kernel
theorem dX7_change_77 : decode cX7_change 77 = .ok (.laload, 1) := by decide +kernel
theorem dX7_change_78 : decode cX7_change 78 = .ok (.aload_n 0, 1) := by decide +kernel
theorem dX7_change_79 : decode cX7_change 79 = .ok (.getfield 36, 3) := by decide +kernel
theorem dX7_change_82 : decode cX7_change 82 = .ok (.bipush 12, 2) := by decide +kernel
theorem dX7_change_84 : decode cX7_change 84 = .ok (.iload_n 1, 1) := by decide +kernel
theorem dX7_change_85 : decode cX7_change 85 = .ok (.imul, 1) := by decide +kernel
theorem dX7_change_86 : decode cX7_change 86 = .ok (.iload 5, 2) := by decide +kernel
theorem dX7_change_88 : decode cX7_change 88 = .ok (.iadd, 1) := by decide +kernel
theorem dX7_change_89 : decode cX7_change 89 = .ok (.baload, 1) := by decide +kernel
theorem dX7_change_90 : decode cX7_change 90 = .ok (.ifCond .eq 7, 3) := by decide +kernel
theorem dX7_change_93 : decode cX7_change 93 = .ok (.lconst 0, 1) := by decide +kernel
theorem dX7_change_94 : decode cX7_change 94 = .ok (.goto 18, 3) := by decide +kernel
theorem dX7_change_97 : decode cX7_change 97 = .ok (.aload_n 0, 1) := by decide +kernel
theorem dX7_change_98 : decode cX7_change 98 = .ok (.iload_n 1, 1) := by decide +kernel
theorem dX7_change_99 : decode cX7_change 99 = .ok (.iload 5, 2) := by decide +kernel
theorem dX7_change_101 : decode cX7_change 101 = .ok (.invokevirtual 99, 3) := by decide +kernel
theorem dX7_change_104 : decode cX7_change 104 = .ok (.aload_n 0, 1) := by decide +kernel
theorem dX7_change_105 : decode cX7_change 105 = .ok (.getfield 82, 3) := by decide +kernel
theorem dX7_change_108 : decode cX7_change 108 = .ok (.iload 5, 2) := by decide +kernel
theorem dX7_change_110 : decode cX7_change 110 = .ok (.laload, 1) := by decide +kernel
theorem dX7_change_111 : decode cX7_change 111 = .ok (.lsub, 1) := by decide +kernel
theorem dX7_change_112 : decode cX7_change 112 = .ok (.ladd, 1) := by decide +kernel
theorem dX7_change_113 : decode cX7_change 113 = .ok (.lastore, 1) := by decide +kernel
theorem dX7_change_114 : decode cX7_change 114 = .ok (.iinc 5 1, 3) := by decide +kernel
theorem dX7_change_117 : decode cX7_change 117 = .ok (.goto (-61), 3) := by decide +kernel
theorem dX7_change_120 : decode cX7_change 120 = .ok (.aload_n 0, 1) := by decide +kernel
theorem dX7_change_121 : decode cX7_change 121 = .ok (.getfield 43, 3) := by decide +kernel
theorem dX7_change_124 : decode cX7_change 124 = .ok (.iload_n 1, 1) := by decide +kernel
theorem dX7_change_125 : decode cX7_change 125 = .ok (.dup2, 1) := by decide +kernel
theorem dX7_change_126 : decode cX7_change 126 = .ok (.iaload, 1) := by decide +kernel
theorem dX7_change_127 : decode cX7_change 127 = .ok (.aload_n 0, 1) := by decide +kernel
theorem dX7_change_128 : decode cX7_change 128 = .ok (.iload_n 1, 1) := by decide +kernel
theorem dX7_change_129 : decode cX7_change 129 = .ok (.invokevirtual 134, 3) := by decide +kernel
theorem dX7_change_132 : decode cX7_change 132 = .ok (.iadd, 1) := by decide +kernel
theorem dX7_change_133 : decode cX7_change 133 = .ok (.iastore, 1) := by decide +kernel
theorem dX7_change_134 : decode cX7_change 134 = .ok (.aload_n 0, 1) := by decide +kernel
theorem dX7_change_135 : decode cX7_change 135 = .ok (.getfield 40, 3) := by decide +kernel
theorem dX7_change_138 : decode cX7_change 138 = .ok (.iload_n 1, 1) := by decide +kernel
theorem dX7_change_139 : decode cX7_change 139 = .ok (.dup2, 1) := by decide +kernel
theorem dX7_change_140 : decode cX7_change 140 = .ok (.iaload, 1) := by decide +kernel
theorem dX7_change_141 : decode cX7_change 141 = .ok (.iconst 1, 1) := by decide +kernel
theorem dX7_change_142 : decode cX7_change 142 = .ok (.iadd, 1) := by decide +kernel
theorem dX7_change_143 : decode cX7_change 143 = .ok (.iastore, 1) := by decide +kernel
theorem dX7_change_144 : decode cX7_change 144 = .ok (.aload_n 0, 1) := by decide +kernel
theorem dX7_change_145 : decode cX7_change 145 = .ok (.getfield 138, 3) := by decide +kernel
theorem dX7_change_148 : decode cX7_change 148 = .ok (.ifCond .le 28, 3) := by decide +kernel
theorem dX7_change_151 : decode cX7_change 151 = .ok (.aload_n 0, 1) := by decide +kernel
theorem dX7_change_152 : decode cX7_change 152 = .ok (.getfield 40, 3) := by decide +kernel
theorem dX7_change_155 : decode cX7_change 155 = .ok (.iload_n 1, 1) := by decide +kernel
theorem dX7_change_156 : decode cX7_change 156 = .ok (.iaload, 1) := by decide +kernel
theorem dX7_change_157 : decode cX7_change 157 = .ok (.aload_n 0, 1) := by decide +kernel
theorem dX7_change_158 : decode cX7_change 158 = .ok (.getfield 138, 3) := by decide +kernel
theorem dX7_change_161 : decode cX7_change 161 = .ok (.irem, 1) := by decide +kernel
theorem dX7_change_162 : decode cX7_change 162 = .ok (.ifCond .ne 14, 3) := by decide +kernel
theorem dX7_change_165 : decode cX7_change 165 = .ok (.aload_n 0, 1) := by decide +kernel
theorem dX7_change_166 : decode cX7_change 166 = .ok (.getfield 46, 3) := by decide +kernel
theorem dX7_change_169 : decode cX7_change 169 = .ok (.iload_n 1, 1) := by decide +kernel
theorem dX7_change_170 : decode cX7_change 170 = .ok (.aload_n 0, 1) := by decide +kernel
theorem dX7_change_171 : decode cX7_change 171 = .ok (.iload_n 1, 1) := by decide +kernel
theorem dX7_change_172 : decode cX7_change 172 = .ok (.invokevirtual 141, 3) := by decide +kernel
theorem dX7_change_175 : decode cX7_change 175 = .ok (.iastore, 1) := by decide +kernel
theorem dX7_change_176 : decode cX7_change 176 = .ok (.aload_n 0, 1) := by decide +kernel
theorem dX7_change_177 : decode cX7_change 177 = .ok (.iload_n 1, 1) := by decide +kernel
theorem dX7_change_178 : decode cX7_change 178 = .ok (.invokevirtual 144, 3) := by decide +kernel
theorem dX7_change_181 : decode cX7_change 181 = .ok (.ireturn, 1) := by decide +kernel
theorem dX7_attempt_0 : decode cX7_attempt 0 = .ok (.aload_n 0, 1) := by decide +kernel
theorem dX7_attempt_1 : decode cX7_attempt 1 = .ok (.iload_n 1, 1) := by decide +kernel
theorem dX7_attempt_2 : decode cX7_attempt 2 = .ok (.invokevirtual 113, 3) := by decide +kernel
theorem dX7_attempt_5 : decode cX7_attempt 5 = .ok (.ifCond .eq 13, 3) := by decide +kernel
theorem dX7_attempt_8 : decode cX7_attempt 8 = .ok (.iload 5, 2) := by decide +kernel
theorem dX7_attempt_10 : decode cX7_attempt 10 = .ok (.iconst 0, 1) := by decide +kernel
theorem dX7_attempt_11 : decode cX7_attempt 11 = .ok (.iconst 2, 1) := by decide +kernel
theorem dX7_attempt_12 : decode cX7_attempt 12 = .ok (.invokestatic 85, 3) := by decide +kernel
theorem dX7_attempt_15 : decode cX7_attempt 15 = .ok (.ifCond .ne 7, 3) := by decide +kernel
theorem dX7_attempt_18 : decode cX7_attempt 18 = .ok (.ldc2_w 147, 3) := by decide +kernel
theorem dX7_attempt_21 : decode cX7_attempt 21 = .ok (.lreturn, 1) := by decide +kernel
theorem dX7_attempt_22 : decode cX7_attempt 22 = .ok (.aload_n 0, 1) := by decide +kernel
theorem dX7_attempt_23 : decode cX7_attempt 23 = .ok (.iload_n 1, 1) := by decide +kernel
theorem dX7_attempt_24 : decode cX7_attempt 24 = .ok (.iload 5, 2) := by decide +kernel
theorem dX7_attempt_26 : decode cX7_attempt 26 = .ok (.invokevirtual 149, 3) := by decide +kernel
theorem dX7_attempt_29 : decode cX7_attempt 29 = .ok (.lstore 6, 2) := by decide +kernel
theorem dX7_attempt_31 : decode cX7_attempt 31 = .ok (.aload_n 0, 1) := by decide +kernel
theorem dX7_attempt_32 : decode cX7_attempt 32 = .ok (.iload_n 1, 1) := by decide +kernel
theorem dX7_attempt_33 : decode cX7_attempt 33 = .ok (.iload_n 2, 1) := by decide +kernel
theorem dX7_attempt_34 : decode cX7_attempt 34 = .ok (.iload_n 3, 1) := by decide +kernel
theorem dX7_attempt_35 : decode cX7_attempt 35 = .ok (.iload 4, 2) := by decide +kernel
theorem dX7_attempt_37 : decode cX7_attempt 37 = .ok (.invokevirtual 123, 3) := by decide +kernel
theorem dX7_attempt_40 : decode cX7_attempt 40 = .ok (.ifCond .ne 6, 3) := by decide +kernel
theorem dX7_attempt_43 : decode cX7_attempt 43 = .ok (.lload 6, 2) := by decide +kernel
theorem dX7_attempt_45 : decode cX7_attempt 45 = .ok (.lreturn, 1) := by decide +kernel
theorem dX7_attempt_46 : decode cX7_attempt 46 = .ok (.aload_n 0, 1) := by decide +kernel
theorem dX7_attempt_47 : decode cX7_attempt 47 = .ok (.iload_n 1, 1) := by decide +kernel
theorem dX7_attempt_48 : decode cX7_attempt 48 = .ok (.invokevirtual 107, 3) := by decide +kernel
theorem dX7_attempt_51 : decode cX7_attempt 51 = .ok (.aload_n 0, 1) := by decide +kernel
theorem dX7_attempt_52 : decode cX7_attempt 52 = .ok (.iload_n 1, 1) := by decide +kernel
theorem dX7_attempt_53 : decode cX7_attempt 53 = .ok (.iload_n 2, 1) := by decide +kernel
theorem dX7_attempt_54 : decode cX7_attempt 54 = .ok (.iload_n 3, 1) := by decide +kernel
theorem dX7_attempt_55 : decode cX7_attempt 55 = .ok (.iload 4, 2) := by decide +kernel
theorem dX7_attempt_57 : decode cX7_attempt 57 = .ok (.invokevirtual 131, 3) := by decide +kernel
theorem dX7_attempt_60 : decode cX7_attempt 60 = .ok (.iconst 0, 1) := by decide +kernel
theorem dX7_attempt_61 : decode cX7_attempt 61 = .ok (.istore 8, 2) := by decide +kernel
theorem dX7_attempt_63 : decode cX7_attempt 63 = .ok (.iload 8, 2) := by decide +kernel
theorem dX7_attempt_65 : decode cX7_attempt 65 = .ok (.aload_n 0, 1) := by decide +kernel
theorem dX7_attempt_66 : decode cX7_attempt 66 = .ok (.getfield 96, 3) := by decide +kernel
theorem dX7_attempt_69 : decode cX7_attempt 69 = .ok (.if_icmp .ge 60, 3) := by decide +kernel
theorem dX7_attempt_72 : decode cX7_attempt 72 = .ok (.lload 6, 2) := by decide +kernel
theorem dX7_attempt_74 : decode cX7_attempt 74 = .ok (.aload_n 0, 1) := by decide +kernel
theorem dX7_attempt_75 : decode cX7_attempt 75 = .ok (.getfield 22, 3) := by decide +kernel
theorem dX7_attempt_78 : decode cX7_attempt 78 = .ok (.iload 8, 2) := by decide +kernel
theorem dX7_attempt_80 : decode cX7_attempt 80 = .ok (.iaload, 1) := by decide +kernel
theorem dX7_attempt_81 : decode cX7_attempt 81 = .ok (.iload 5, 2) := by decide +kernel
theorem dX7_attempt_83 : decode cX7_attempt 83 = .ok (.if_icmp .ne 36, 3) := by decide +kernel
theorem dX7_attempt_86 : decode cX7_attempt 86 = .ok (.aload_n 0, 1) := by decide +kernel
theorem dX7_attempt_87 : decode cX7_attempt 87 = .ok (.getfield 36, 3) := by decide +kernel
theorem dX7_attempt_90 : decode cX7_attempt 90 = .ok (.bipush 12, 2) := by decide +kernel
theorem dX7_attempt_92 : decode cX7_attempt 92 = .ok (.iload_n 1, 1) := by decide +kernel
theorem dX7_attempt_93 : decode cX7_attempt 93 = .ok (.imul, 1) := by decide +kernel
theorem dX7_attempt_94 : decode cX7_attempt 94 = .ok (.iload 8, 2) := by decide +kernel
theorem dX7_attempt_96 : decode cX7_attempt 96 = .ok (.iadd, 1) := by decide +kernel
theorem dX7_attempt_97 : decode cX7_attempt 97 = .ok (.baload, 1) := by decide +kernel
theorem dX7_attempt_98 : decode cX7_attempt 98 = .ok (.ifCond .ne 21, 3) := by decide +kernel
theorem dX7_attempt_101 : decode cX7_attempt 101 = .ok (.aload_n 0, 1) := by decide +kernel
theorem dX7_attempt_102 : decode cX7_attempt 102 = .ok (.iload_n 1, 1) := by decide +kernel
theorem dX7_attempt_103 : decode cX7_attempt 103 = .ok (.iload 8, 2) := by decide +kernel
theorem dX7_attempt_105 : decode cX7_attempt 105 = .ok (.invokevirtual 99, 3) := by decide +kernel
theorem dX7_attempt_108 : decode cX7_attempt 108 = .ok (.aload_n 0, 1) := by decide +kernel
theorem dX7_attempt_109 : decode cX7_attempt 109 = .ok (.getfield 82, 3) := by decide +kernel
theorem dX7_attempt_112 : decode cX7_attempt 112 = .ok (.iload 8, 2) := by decide +kernel
theorem dX7_attempt_114 : decode cX7_attempt 114 = .ok (.laload, 1) := by decide +kernel
theorem dX7_attempt_115 : decode cX7_attempt 115 = .ok (.lsub, 1) := by decide +kernel
theorem dX7_attempt_116 : decode cX7_attempt 116 = .ok (.goto 4, 3) := by decide +kernel
theorem dX7_attempt_119 : decode cX7_attempt 119 = .ok (.lconst 0, 1) := by decide +kernel
theorem dX7_attempt_120 : decode cX7_attempt 120 = .ok (.ladd, 1) := by decide +kernel
theorem dX7_attempt_121 : decode cX7_attempt 121 = .ok (.lstore 6, 2) := by decide +kernel
theorem dX7_attempt_123 : decode cX7_attempt 123 = .ok (.iinc 8 1, 3) := by decide +kernel
theorem dX7_attempt_126 : decode cX7_attempt 126 = .ok (.goto (-63), 3) := by decide +kernel
theorem dX7_attempt_129 : decode cX7_attempt 129 = .ok (.iconst 0, 1) := by decide +kernel
theorem dX7_attempt_130 : decode cX7_attempt 130 = .ok (.istore 8, 2) := by decide +kernel
theorem dX7_attempt_132 : decode cX7_attempt 132 = .ok (.iload 8, 2) := by decide +kernel
theorem dX7_attempt_134 : decode cX7_attempt 134 = .ok (.sipush 160, 3) := by decide +kernel
theorem dX7_attempt_137 : decode cX7_attempt 137 = .ok (.if_icmp .ge 29, 3) := by decide +kernel
theorem dX7_attempt_140 : decode cX7_attempt 140 = .ok (.aload_n 0, 1) := by decide +kernel
theorem dX7_attempt_141 : decode cX7_attempt 141 = .ok (.getfield 29, 3) := by decide +kernel
theorem dX7_attempt_144 : decode cX7_attempt 144 = .ok (.sipush 160, 3) := by decide +kernel
theorem dX7_attempt_147 : decode cX7_attempt 147 = .ok (.iload_n 1, 1) := by decide +kernel
theorem dX7_attempt_148 : decode cX7_attempt 148 = .ok (.imul, 1) := by decide +kernel
theorem dX7_attempt_149 : decode cX7_attempt 149 = .ok (.iload 8, 2) := by decide +kernel
theorem dX7_attempt_151 : decode cX7_attempt 151 = .ok (.iadd, 1) := by decide +kernel
theorem dX7_attempt_152 : decode cX7_attempt 152 = .ok (.aload_n 0, 1) := by decide +kernel
theorem dX7_attempt_153 : decode cX7_attempt 153 = .ok (.getfield 79, 3) := by decide +kernel
theorem dX7_attempt_156 : decode cX7_attempt 156 = .ok (.iload 8, 2) := by decide +kernel
theorem dX7_attempt_158 : decode cX7_attempt 158 = .ok (.iaload, 1) := by decide +kernel
theorem dX7_attempt_159 : decode cX7_attempt 159 = .ok (.iastore, 1) := by decide +kernel
theorem dX7_attempt_160 : decode cX7_attempt 160 = .ok (.iinc 8 1, 3) := by decide +kernel
theorem dX7_attempt_163 : decode cX7_attempt 163 = .ok (.goto (-31), 3) := by decide +kernel
theorem dX7_attempt_166 : decode cX7_attempt 166 = .ok (.lload 6, 2) := by decide +kernel
theorem dX7_attempt_168 : decode cX7_attempt 168 = .ok (.lreturn, 1) := by decide +kernel
theorem dX7_takeBack_0 : decode cX7_takeBack 0 = .ok (.aload_n 0, 1) := by decide +kernel
theorem dX7_takeBack_1 : decode cX7_takeBack 1 = .ok (.iload_n 1, 1) := by decide +kernel
theorem dX7_takeBack_2 : decode cX7_takeBack 2 = .ok (.invokevirtual 107, 3) := by decide +kernel
theorem dX7_takeBack_5 : decode cX7_takeBack 5 = .ok (.aload_n 0, 1) := by decide +kernel
theorem dX7_takeBack_6 : decode cX7_takeBack 6 = .ok (.getfield 55, 3) := by decide +kernel
theorem dX7_takeBack_9 : decode cX7_takeBack 9 = .ok (.iload_n 1, 1) := by decide +kernel
theorem dX7_takeBack_10 : decode cX7_takeBack 10 = .ok (.dup2, 1) := by decide +kernel
theorem dX7_takeBack_11 : decode cX7_takeBack 11 = .ok (.iaload, 1) := by decide +kernel
theorem dX7_takeBack_12 : decode cX7_takeBack 12 = .ok (.iconst 1, 1) := by decide +kernel
theorem dX7_takeBack_13 : decode cX7_takeBack 13 = .ok (.isub, 1) := by decide +kernel
theorem dX7_takeBack_14 : decode cX7_takeBack 14 = .ok (.iastore, 1) := by decide +kernel
theorem dX7_takeBack_15 : decode cX7_takeBack 15 = .ok (.aload_n 0, 1) := by decide +kernel
theorem dX7_takeBack_16 : decode cX7_takeBack 16 = .ok (.getfield 52, 3) := by decide +kernel
theorem dX7_takeBack_19 : decode cX7_takeBack 19 = .ok (.iload_n 1, 1) := by decide +kernel
theorem dX7_takeBack_20 : decode cX7_takeBack 20 = .ok (.dup2, 1) := by decide +kernel
theorem dX7_takeBack_21 : decode cX7_takeBack 21 = .ok (.iaload, 1) := by decide +kernel
theorem dX7_takeBack_22 : decode cX7_takeBack 22 = .ok (.aload_n 0, 1) := by decide +kernel
theorem dX7_takeBack_23 : decode cX7_takeBack 23 = .ok (.getfield 49, 3) := by decide +kernel
theorem dX7_takeBack_26 : decode cX7_takeBack 26 = .ok (.iload_n 1, 1) := by decide +kernel
theorem dX7_takeBack_27 : decode cX7_takeBack 27 = .ok (.baload, 1) := by decide +kernel
theorem dX7_takeBack_28 : decode cX7_takeBack 28 = .ok (.ifCond .eq 7, 3) := by decide +kernel
theorem dX7_takeBack_31 : decode cX7_takeBack 31 = .ok (.iconst 1, 1) := by decide +kernel
theorem dX7_takeBack_32 : decode cX7_takeBack 32 = .ok (.goto 4, 3) := by decide +kernel
theorem dX7_takeBack_35 : decode cX7_takeBack 35 = .ok (.iconst 0, 1) := by decide +kernel
theorem dX7_takeBack_36 : decode cX7_takeBack 36 = .ok (.isub, 1) := by decide +kernel
theorem dX7_takeBack_37 : decode cX7_takeBack 37 = .ok (.iastore, 1) := by decide +kernel
theorem dX7_takeBack_38 : decode cX7_takeBack 38 = .ok (.bipush 60, 2) := by decide +kernel
theorem dX7_takeBack_40 : decode cX7_takeBack 40 = .ok (.iload_n 1, 1) := by decide +kernel
theorem dX7_takeBack_41 : decode cX7_takeBack 41 = .ok (.imul, 1) := by decide +kernel
theorem dX7_takeBack_42 : decode cX7_takeBack 42 = .ok (.aload_n 0, 1) := by decide +kernel
theorem dX7_takeBack_43 : decode cX7_takeBack 43 = .ok (.getfield 55, 3) := by decide +kernel
theorem dX7_takeBack_46 : decode cX7_takeBack 46 = .ok (.iload_n 1, 1) := by decide +kernel
theorem dX7_takeBack_47 : decode cX7_takeBack 47 = .ok (.iaload, 1) := by decide +kernel
theorem dX7_takeBack_48 : decode cX7_takeBack 48 = .ok (.iadd, 1) := by decide +kernel
theorem dX7_takeBack_49 : decode cX7_takeBack 49 = .ok (.istore_n 2, 1) := by decide +kernel
theorem dX7_takeBack_50 : decode cX7_takeBack 50 = .ok (.aload_n 0, 1) := by decide +kernel
theorem dX7_takeBack_51 : decode cX7_takeBack 51 = .ok (.iload_n 1, 1) := by decide +kernel
theorem dX7_takeBack_52 : decode cX7_takeBack 52 = .ok (.aload_n 0, 1) := by decide +kernel
theorem dX7_takeBack_53 : decode cX7_takeBack 53 = .ok (.getfield 58, 3) := by decide +kernel
theorem dX7_takeBack_56 : decode cX7_takeBack 56 = .ok (.iload_n 2, 1) := by decide +kernel
theorem dX7_takeBack_57 : decode cX7_takeBack 57 = .ok (.iaload, 1) := by decide +kernel
theorem dX7_takeBack_58 : decode cX7_takeBack 58 = .ok (.aload_n 0, 1) := by decide +kernel
theorem dX7_takeBack_59 : decode cX7_takeBack 59 = .ok (.getfield 61, 3) := by decide +kernel
theorem dX7_takeBack_62 : decode cX7_takeBack 62 = .ok (.iload_n 2, 1) := by decide +kernel
theorem dX7_takeBack_63 : decode cX7_takeBack 63 = .ok (.iaload, 1) := by decide +kernel
theorem dX7_takeBack_64 : decode cX7_takeBack 64 = .ok (.aload_n 0, 1) := by decide +kernel
theorem dX7_takeBack_65 : decode cX7_takeBack 65 = .ok (.getfield 64, 3) := by decide +kernel
theorem dX7_takeBack_68 : decode cX7_takeBack 68 = .ok (.iload_n 2, 1) := by decide +kernel
theorem dX7_takeBack_69 : decode cX7_takeBack 69 = .ok (.iaload, 1) := by decide +kernel
theorem dX7_takeBack_70 : decode cX7_takeBack 70 = .ok (.invokevirtual 131, 3) := by decide +kernel
theorem dX7_takeBack_73 : decode cX7_takeBack 73 = .ok (.iconst 0, 1) := by decide +kernel
theorem dX7_takeBack_74 : decode cX7_takeBack 74 = .ok (.istore_n 3, 1) := by decide +kernel
theorem dX7_takeBack_75 : decode cX7_takeBack 75 = .ok (.iload_n 3, 1) := by decide +kernel
theorem dX7_takeBack_76 : decode cX7_takeBack 76 = .ok (.bipush 12, 2) := by decide +kernel
theorem dX7_takeBack_78 : decode cX7_takeBack 78 = .ok (.if_icmp .ge 31, 3) := by decide +kernel
theorem dX7_takeBack_81 : decode cX7_takeBack 81 = .ok (.aload_n 0, 1) := by decide +kernel
theorem dX7_takeBack_82 : decode cX7_takeBack 82 = .ok (.getfield 32, 3) := by decide +kernel
theorem dX7_takeBack_85 : decode cX7_takeBack 85 = .ok (.bipush 12, 2) := by decide +kernel
theorem dX7_takeBack_87 : decode cX7_takeBack 87 = .ok (.iload_n 1, 1) := by decide +kernel
theorem dX7_takeBack_88 : decode cX7_takeBack 88 = .ok (.imul, 1) := by decide +kernel
theorem dX7_takeBack_89 : decode cX7_takeBack 89 = .ok (.iload_n 3, 1) := by decide +kernel
theorem dX7_takeBack_90 : decode cX7_takeBack 90 = .ok (.iadd, 1) := by decide +kernel
theorem dX7_takeBack_91 : decode cX7_takeBack 91 = .ok (.aload_n 0, 1) := by decide +kernel
theorem dX7_takeBack_92 : decode cX7_takeBack 92 = .ok (.getfield 67, 3) := by decide +kernel
theorem dX7_takeBack_95 : decode cX7_takeBack 95 = .ok (.bipush 12, 2) := by decide +kernel
theorem dX7_takeBack_97 : decode cX7_takeBack 97 = .ok (.iload_n 2, 1) := by decide +kernel
theorem dX7_takeBack_98 : decode cX7_takeBack 98 = .ok (.imul, 1) := by decide +kernel
theorem dX7_takeBack_99 : decode cX7_takeBack 99 = .ok (.iload_n 3, 1) := by decide +kernel
theorem dX7_takeBack_100 : decode cX7_takeBack 100 = .ok (.iadd, 1) := by decide +kernel
theorem dX7_takeBack_101 : decode cX7_takeBack 101 = .ok (.laload, 1) := by decide +kernel
theorem dX7_takeBack_102 : decode cX7_takeBack 102 = .ok (.lastore, 1) := by decide +kernel
theorem dX7_takeBack_103 : decode cX7_takeBack 103 = .ok (.iinc 3 1, 3) := by decide +kernel
theorem dX7_takeBack_106 : decode cX7_takeBack 106 = .ok (.goto (-31), 3) := by decide +kernel
theorem dX7_takeBack_109 : decode cX7_takeBack 109 = .ok (.aload_n 0, 1) := by decide +kernel
theorem dX7_takeBack_110 : decode cX7_takeBack 110 = .ok (.getfield 43, 3) := by decide +kernel
theorem dX7_takeBack_113 : decode cX7_takeBack 113 = .ok (.iload_n 1, 1) := by decide +kernel
theorem dX7_takeBack_114 : decode cX7_takeBack 114 = .ok (.dup2, 1) := by decide +kernel
theorem dX7_takeBack_115 : decode cX7_takeBack 115 = .ok (.iaload, 1) := by decide +kernel
theorem dX7_takeBack_116 : decode cX7_takeBack 116 = .ok (.aload_n 0, 1) := by decide +kernel
theorem dX7_takeBack_117 : decode cX7_takeBack 117 = .ok (.iload_n 1, 1) := by decide +kernel
theorem dX7_takeBack_118 : decode cX7_takeBack 118 = .ok (.invokevirtual 134, 3) := by decide +kernel
theorem dX7_takeBack_121 : decode cX7_takeBack 121 = .ok (.iadd, 1) := by decide +kernel
theorem dX7_takeBack_122 : decode cX7_takeBack 122 = .ok (.iastore, 1) := by decide +kernel
theorem dX7_takeBack_123 : decode cX7_takeBack 123 = .ok (.return_, 1) := by decide +kernel
theorem dX7_undo_0 : decode cX7_undo 0 = .ok (.aload_n 0, 1) := by decide +kernel
theorem dX7_undo_1 : decode cX7_undo 1 = .ok (.iload_n 1, 1) := by decide +kernel
theorem dX7_undo_2 : decode cX7_undo 2 = .ok (.invokevirtual 113, 3) := by decide +kernel
theorem dX7_undo_5 : decode cX7_undo 5 = .ok (.ifCond .ne 5, 3) := by decide +kernel
theorem dX7_undo_8 : decode cX7_undo 8 = .ok (.iconst (-1), 1) := by decide +kernel
theorem dX7_undo_9 : decode cX7_undo 9 = .ok (.ireturn, 1) := by decide +kernel
theorem dX7_undo_10 : decode cX7_undo 10 = .ok (.aload_n 0, 1) := by decide +kernel
theorem dX7_undo_11 : decode cX7_undo 11 = .ok (.getfield 55, 3) := by decide +kernel
theorem dX7_undo_14 : decode cX7_undo 14 = .ok (.iload_n 1, 1) := by decide +kernel
theorem dX7_undo_15 : decode cX7_undo 15 = .ok (.iaload, 1) := by decide +kernel
theorem dX7_undo_16 : decode cX7_undo 16 = .ok (.ifCond .eq 21, 3) := by decide +kernel
theorem dX7_undo_19 : decode cX7_undo 19 = .ok (.aload_n 0, 1) := by decide +kernel
theorem dX7_undo_20 : decode cX7_undo 20 = .ok (.getfield 49, 3) := by decide +kernel
theorem dX7_undo_23 : decode cX7_undo 23 = .ok (.iload_n 1, 1) := by decide +kernel
theorem dX7_undo_24 : decode cX7_undo 24 = .ok (.baload, 1) := by decide +kernel
theorem dX7_undo_25 : decode cX7_undo 25 = .ok (.ifCond .eq 15, 3) := by decide +kernel
theorem dX7_undo_28 : decode cX7_undo 28 = .ok (.aload_n 0, 1) := by decide +kernel
theorem dX7_undo_29 : decode cX7_undo 29 = .ok (.getfield 52, 3) := by decide +kernel
theorem dX7_undo_32 : decode cX7_undo 32 = .ok (.iload_n 1, 1) := by decide +kernel
theorem dX7_undo_33 : decode cX7_undo 33 = .ok (.iaload, 1) := by decide +kernel
theorem dX7_undo_34 : decode cX7_undo 34 = .ok (.ifCond .ne 6, 3) := by decide +kernel
theorem dX7_undo_37 : decode cX7_undo 37 = .ok (.bipush (-3), 2) := by decide +kernel
theorem dX7_undo_39 : decode cX7_undo 39 = .ok (.ireturn, 1) := by decide +kernel
theorem dX7_undo_40 : decode cX7_undo 40 = .ok (.aload_n 0, 1) := by decide +kernel
theorem dX7_undo_41 : decode cX7_undo 41 = .ok (.iload_n 1, 1) := by decide +kernel
theorem dX7_undo_42 : decode cX7_undo 42 = .ok (.invokevirtual 152, 3) := by decide +kernel
theorem dX7_undo_45 : decode cX7_undo 45 = .ok (.aload_n 0, 1) := by decide +kernel
theorem dX7_undo_46 : decode cX7_undo 46 = .ok (.getfield 55, 3) := by decide +kernel
theorem dX7_undo_49 : decode cX7_undo 49 = .ok (.iload_n 1, 1) := by decide +kernel
theorem dX7_undo_50 : decode cX7_undo 50 = .ok (.iaload, 1) := by decide +kernel
theorem dX7_undo_51 : decode cX7_undo 51 = .ok (.ireturn, 1) := by decide +kernel
theorem dX7_begin_0 : decode cX7_begin 0 = .ok (.aload_n 0, 1) := by decide +kernel
theorem dX7_begin_1 : decode cX7_begin 1 = .ok (.iload_n 1, 1) := by decide +kernel
theorem dX7_begin_2 : decode cX7_begin 2 = .ok (.invokevirtual 113, 3) := by decide +kernel
theorem dX7_begin_5 : decode cX7_begin 5 = .ok (.ifCond .ne 5, 3) := by decide +kernel
theorem dX7_begin_8 : decode cX7_begin 8 = .ok (.iconst (-1), 1) := by decide +kernel
theorem dX7_begin_9 : decode cX7_begin 9 = .ok (.ireturn, 1) := by decide +kernel
theorem dX7_begin_10 : decode cX7_begin 10 = .ok (.aload_n 0, 1) := by decide +kernel
theorem dX7_begin_11 : decode cX7_begin 11 = .ok (.getfield 49, 3) := by decide +kernel
theorem dX7_begin_14 : decode cX7_begin 14 = .ok (.iload_n 1, 1) := by decide +kernel
theorem dX7_begin_15 : decode cX7_begin 15 = .ok (.baload, 1) := by decide +kernel
theorem dX7_begin_16 : decode cX7_begin 16 = .ok (.ifCond .eq 6, 3) := by decide +kernel
theorem dX7_begin_19 : decode cX7_begin 19 = .ok (.bipush (-3), 2) := by decide +kernel
theorem dX7_begin_21 : decode cX7_begin 21 = .ok (.ireturn, 1) := by decide +kernel
theorem dX7_begin_22 : decode cX7_begin 22 = .ok (.aload_n 0, 1) := by decide +kernel
theorem dX7_begin_23 : decode cX7_begin 23 = .ok (.getfield 49, 3) := by decide +kernel
theorem dX7_begin_26 : decode cX7_begin 26 = .ok (.iload_n 1, 1) := by decide +kernel
theorem dX7_begin_27 : decode cX7_begin 27 = .ok (.iconst 1, 1) := by decide +kernel
theorem dX7_begin_28 : decode cX7_begin 28 = .ok (.bastore, 1) := by decide +kernel
theorem dX7_begin_29 : decode cX7_begin 29 = .ok (.aload_n 0, 1) := by decide +kernel
theorem dX7_begin_30 : decode cX7_begin 30 = .ok (.getfield 52, 3) := by decide +kernel
theorem dX7_begin_33 : decode cX7_begin 33 = .ok (.iload_n 1, 1) := by decide +kernel
theorem dX7_begin_34 : decode cX7_begin 34 = .ok (.iconst 0, 1) := by decide +kernel
theorem dX7_begin_35 : decode cX7_begin 35 = .ok (.iastore, 1) := by decide +kernel
theorem dX7_begin_36 : decode cX7_begin 36 = .ok (.aload_n 0, 1) := by decide +kernel
theorem dX7_begin_37 : decode cX7_begin 37 = .ok (.getfield 55, 3) := by decide +kernel
theorem dX7_begin_40 : decode cX7_begin 40 = .ok (.iload_n 1, 1) := by decide +kernel
theorem dX7_begin_41 : decode cX7_begin 41 = .ok (.iaload, 1) := by decide +kernel
theorem dX7_begin_42 : decode cX7_begin 42 = .ok (.ireturn, 1) := by decide +kernel
theorem dX7_end_0 : decode cX7_end 0 = .ok (.aload_n 0, 1) := by decide +kernel
theorem dX7_end_1 : decode cX7_end 1 = .ok (.iload_n 1, 1) := by decide +kernel
theorem dX7_end_2 : decode cX7_end 2 = .ok (.invokevirtual 113, 3) := by decide +kernel
theorem dX7_end_5 : decode cX7_end 5 = .ok (.ifCond .ne 5, 3) := by decide +kernel
theorem dX7_end_8 : decode cX7_end 8 = .ok (.iconst (-1), 1) := by decide +kernel
theorem dX7_end_9 : decode cX7_end 9 = .ok (.ireturn, 1) := by decide +kernel
theorem dX7_end_10 : decode cX7_end 10 = .ok (.aload_n 0, 1) := by decide +kernel
theorem dX7_end_11 : decode cX7_end 11 = .ok (.getfield 49, 3) := by decide +kernel
theorem dX7_end_14 : decode cX7_end 14 = .ok (.iload_n 1, 1) := by decide +kernel
theorem dX7_end_15 : decode cX7_end 15 = .ok (.baload, 1) := by decide +kernel
theorem dX7_end_16 : decode cX7_end 16 = .ok (.ifCond .ne 6, 3) := by decide +kernel
theorem dX7_end_19 : decode cX7_end 19 = .ok (.bipush (-3), 2) := by decide +kernel
theorem dX7_end_21 : decode cX7_end 21 = .ok (.ireturn, 1) := by decide +kernel
theorem dX7_end_22 : decode cX7_end 22 = .ok (.aload_n 0, 1) := by decide +kernel
theorem dX7_end_23 : decode cX7_end 23 = .ok (.getfield 52, 3) := by decide +kernel
theorem dX7_end_26 : decode cX7_end 26 = .ok (.iload_n 1, 1) := by decide +kernel
theorem dX7_end_27 : decode cX7_end 27 = .ok (.iaload, 1) := by decide +kernel
theorem dX7_end_28 : decode cX7_end 28 = .ok (.istore_n 3, 1) := by decide +kernel
theorem dX7_end_29 : decode cX7_end 29 = .ok (.iload_n 2, 1) := by decide +kernel
theorem dX7_end_30 : decode cX7_end 30 = .ok (.ifCond .ne 20, 3) := by decide +kernel
theorem dX7_end_33 : decode cX7_end 33 = .ok (.aload_n 0, 1) := by decide +kernel
theorem dX7_end_34 : decode cX7_end 34 = .ok (.getfield 52, 3) := by decide +kernel
theorem dX7_end_37 : decode cX7_end 37 = .ok (.iload_n 1, 1) := by decide +kernel
theorem dX7_end_38 : decode cX7_end 38 = .ok (.iaload, 1) := by decide +kernel
theorem dX7_end_39 : decode cX7_end 39 = .ok (.ifCond .le 11, 3) := by decide +kernel
theorem dX7_end_42 : decode cX7_end 42 = .ok (.aload_n 0, 1) := by decide +kernel
theorem dX7_end_43 : decode cX7_end 43 = .ok (.iload_n 1, 1) := by decide +kernel
theorem dX7_end_44 : decode cX7_end 44 = .ok (.invokevirtual 152, 3) := by decide +kernel
theorem dX7_end_47 : decode cX7_end 47 = .ok (.goto (-18), 3) := by decide +kernel
theorem dX7_end_50 : decode cX7_end 50 = .ok (.aload_n 0, 1) := by decide +kernel
theorem dX7_end_51 : decode cX7_end 51 = .ok (.getfield 49, 3) := by decide +kernel
theorem dX7_end_54 : decode cX7_end 54 = .ok (.iload_n 1, 1) := by decide +kernel
theorem dX7_end_55 : decode cX7_end 55 = .ok (.iconst 0, 1) := by decide +kernel
theorem dX7_end_56 : decode cX7_end 56 = .ok (.bastore, 1) := by decide +kernel
theorem dX7_end_57 : decode cX7_end 57 = .ok (.aload_n 0, 1) := by decide +kernel
theorem dX7_end_58 : decode cX7_end 58 = .ok (.getfield 52, 3) := by decide +kernel
theorem dX7_end_61 : decode cX7_end 61 = .ok (.iload_n 1, 1) := by decide +kernel
theorem dX7_end_62 : decode cX7_end 62 = .ok (.iconst 0, 1) := by decide +kernel
theorem dX7_end_63 : decode cX7_end 63 = .ok (.iastore, 1) := by decide +kernel
theorem dX7_end_64 : decode cX7_end 64 = .ok (.iload_n 3, 1) := by decide +kernel
theorem dX7_end_65 : decode cX7_end 65 = .ok (.ireturn, 1) := by decide +kernel
theorem dX7_member_0 : decode cX7_member 0 = .ok (.aload_n 0, 1) := by decide +kernel
theorem dX7_member_1 : decode cX7_member 1 = .ok (.iload_n 1, 1) := by decide +kernel
theorem dX7_member_2 : decode cX7_member 2 = .ok (.invokevirtual 113, 3) := by decide +kernel
theorem dX7_member_5 : decode cX7_member 5 = .ok (.ifCond .eq 41, 3) := by decide +kernel
theorem dX7_member_8 : decode cX7_member 8 = .ok (.iload_n 2, 1) := by decide +kernel
theorem dX7_member_9 : decode cX7_member 9 = .ok (.iconst 0, 1) := by decide +kernel
theorem dX7_member_10 : decode cX7_member 10 = .ok (.aload_n 0, 1) := by decide +kernel
theorem dX7_member_11 : decode cX7_member 11 = .ok (.getfield 89, 3) := by decide +kernel
theorem dX7_member_14 : decode cX7_member 14 = .ok (.iconst 1, 1) := by decide +kernel
theorem dX7_member_15 : decode cX7_member 15 = .ok (.isub, 1) := by decide +kernel
theorem dX7_member_16 : decode cX7_member 16 = .ok (.invokestatic 85, 3) := by decide +kernel
theorem dX7_member_19 : decode cX7_member 19 = .ok (.ifCond .eq 27, 3) := by decide +kernel
theorem dX7_member_22 : decode cX7_member 22 = .ok (.iload_n 3, 1) := by decide +kernel
theorem dX7_member_23 : decode cX7_member 23 = .ok (.iconst 0, 1) := by decide +kernel
theorem dX7_member_24 : decode cX7_member 24 = .ok (.iconst 3, 1) := by decide +kernel
theorem dX7_member_25 : decode cX7_member 25 = .ok (.invokestatic 85, 3) := by decide +kernel
theorem dX7_member_28 : decode cX7_member 28 = .ok (.ifCond .eq 18, 3) := by decide +kernel
theorem dX7_member_31 : decode cX7_member 31 = .ok (.aload_n 0, 1) := by decide +kernel
theorem dX7_member_32 : decode cX7_member 32 = .ok (.getfield 29, 3) := by decide +kernel
theorem dX7_member_35 : decode cX7_member 35 = .ok (.aload_n 0, 1) := by decide +kernel
theorem dX7_member_36 : decode cX7_member 36 = .ok (.iload_n 1, 1) := by decide +kernel
theorem dX7_member_37 : decode cX7_member 37 = .ok (.iload_n 2, 1) := by decide +kernel
theorem dX7_member_38 : decode cX7_member 38 = .ok (.iload_n 3, 1) := by decide +kernel
theorem dX7_member_39 : decode cX7_member 39 = .ok (.invokevirtual 92, 3) := by decide +kernel
theorem dX7_member_42 : decode cX7_member 42 = .ok (.iaload, 1) := by decide +kernel
theorem dX7_member_43 : decode cX7_member 43 = .ok (.goto 5, 3) := by decide +kernel
theorem dX7_member_46 : decode cX7_member 46 = .ok (.ldc 111, 2) := by decide +kernel
theorem dX7_member_48 : decode cX7_member 48 = .ok (.ireturn, 1) := by decide +kernel
theorem dX7_score_0 : decode cX7_score 0 = .ok (.aload_n 0, 1) := by decide +kernel
theorem dX7_score_1 : decode cX7_score 1 = .ok (.iload_n 1, 1) := by decide +kernel
theorem dX7_score_2 : decode cX7_score 2 = .ok (.invokevirtual 113, 3) := by decide +kernel
theorem dX7_score_5 : decode cX7_score 5 = .ok (.ifCond .eq 21, 3) := by decide +kernel
theorem dX7_score_8 : decode cX7_score 8 = .ok (.iload_n 2, 1) := by decide +kernel
theorem dX7_score_9 : decode cX7_score 9 = .ok (.iconst 0, 1) := by decide +kernel
theorem dX7_score_10 : decode cX7_score 10 = .ok (.iconst 2, 1) := by decide +kernel
theorem dX7_score_11 : decode cX7_score 11 = .ok (.invokestatic 85, 3) := by decide +kernel
theorem dX7_score_14 : decode cX7_score 14 = .ok (.ifCond .eq 12, 3) := by decide +kernel
theorem dX7_score_17 : decode cX7_score 17 = .ok (.aload_n 0, 1) := by decide +kernel
theorem dX7_score_18 : decode cX7_score 18 = .ok (.iload_n 1, 1) := by decide +kernel
theorem dX7_score_19 : decode cX7_score 19 = .ok (.iload_n 2, 1) := by decide +kernel
theorem dX7_score_20 : decode cX7_score 20 = .ok (.invokevirtual 149, 3) := by decide +kernel
theorem dX7_score_23 : decode cX7_score 23 = .ok (.goto 6, 3) := by decide +kernel
theorem dX7_score_26 : decode cX7_score 26 = .ok (.ldc2_w 147, 3) := by decide +kernel
theorem dX7_score_29 : decode cX7_score 29 = .ok (.lreturn, 1) := by decide +kernel
theorem dX7_worth_0 : decode cX7_worth 0 = .ok (.aload_n 0, 1) := by decide +kernel
theorem dX7_worth_1 : decode cX7_worth 1 = .ok (.iload_n 1, 1) := by decide +kernel
theorem dX7_worth_2 : decode cX7_worth 2 = .ok (.invokevirtual 113, 3) := by decide +kernel
theorem dX7_worth_5 : decode cX7_worth 5 = .ok (.ifCond .eq 20, 3) := by decide +kernel
theorem dX7_worth_8 : decode cX7_worth 8 = .ok (.aload_n 0, 1) := by decide +kernel
theorem dX7_worth_9 : decode cX7_worth 9 = .ok (.iload_n 2, 1) := by decide +kernel
theorem dX7_worth_10 : decode cX7_worth 10 = .ok (.invokevirtual 117, 3) := by decide +kernel
theorem dX7_worth_13 : decode cX7_worth 13 = .ok (.ifCond .eq 12, 3) := by decide +kernel
theorem dX7_worth_16 : decode cX7_worth 16 = .ok (.iload_n 3, 1) := by decide +kernel
theorem dX7_worth_17 : decode cX7_worth 17 = .ok (.iconst 0, 1) := by decide +kernel
theorem dX7_worth_18 : decode cX7_worth 18 = .ok (.iconst 1, 1) := by decide +kernel
theorem dX7_worth_19 : decode cX7_worth 19 = .ok (.invokestatic 85, 3) := by decide +kernel
theorem dX7_worth_22 : decode cX7_worth 22 = .ok (.ifCond .ne 7, 3) := by decide +kernel
theorem dX7_worth_25 : decode cX7_worth 25 = .ok (.ldc2_w 147, 3) := by decide +kernel
theorem dX7_worth_28 : decode cX7_worth 28 = .ok (.lreturn, 1) := by decide +kernel
theorem dX7_worth_29 : decode cX7_worth 29 = .ok (.iload_n 3, 1) := by decide +kernel
theorem dX7_worth_30 : decode cX7_worth 30 = .ok (.ifCond .ne 17, 3) := by decide +kernel
theorem dX7_worth_33 : decode cX7_worth 33 = .ok (.aload_n 0, 1) := by decide +kernel
theorem dX7_worth_34 : decode cX7_worth 34 = .ok (.getfield 32, 3) := by decide +kernel
theorem dX7_worth_37 : decode cX7_worth 37 = .ok (.bipush 12, 2) := by decide +kernel
theorem dX7_worth_39 : decode cX7_worth 39 = .ok (.iload_n 1, 1) := by decide +kernel
theorem dX7_worth_40 : decode cX7_worth 40 = .ok (.imul, 1) := by decide +kernel
theorem dX7_worth_41 : decode cX7_worth 41 = .ok (.iload_n 2, 1) := by decide +kernel
theorem dX7_worth_42 : decode cX7_worth 42 = .ok (.iadd, 1) := by decide +kernel
theorem dX7_worth_43 : decode cX7_worth 43 = .ok (.laload, 1) := by decide +kernel
theorem dX7_worth_44 : decode cX7_worth 44 = .ok (.goto 9, 3) := by decide +kernel
theorem dX7_worth_47 : decode cX7_worth 47 = .ok (.aload_n 0, 1) := by decide +kernel
theorem dX7_worth_48 : decode cX7_worth 48 = .ok (.iload_n 1, 1) := by decide +kernel
theorem dX7_worth_49 : decode cX7_worth 49 = .ok (.iload_n 2, 1) := by decide +kernel
theorem dX7_worth_50 : decode cX7_worth 50 = .ok (.invokevirtual 99, 3) := by decide +kernel
theorem dX7_worth_53 : decode cX7_worth 53 = .ok (.lreturn, 1) := by decide +kernel
theorem dX7_check_0 : decode cX7_check 0 = .ok (.aload_n 0, 1) := by decide +kernel
theorem dX7_check_1 : decode cX7_check 1 = .ok (.iload_n 1, 1) := by decide +kernel
theorem dX7_check_2 : decode cX7_check 2 = .ok (.invokevirtual 113, 3) := by decide +kernel
theorem dX7_check_5 : decode cX7_check 5 = .ok (.ifCond .eq 11, 3) := by decide +kernel
theorem dX7_check_8 : decode cX7_check 8 = .ok (.aload_n 0, 1) := by decide +kernel
theorem dX7_check_9 : decode cX7_check 9 = .ok (.iload_n 1, 1) := by decide +kernel
theorem dX7_check_10 : decode cX7_check 10 = .ok (.invokevirtual 141, 3) := by decide +kernel
theorem dX7_check_13 : decode cX7_check 13 = .ok (.goto 4, 3) := by decide +kernel
theorem dX7_check_16 : decode cX7_check 16 = .ok (.iconst (-1), 1) := by decide +kernel
theorem dX7_check_17 : decode cX7_check 17 = .ok (.ireturn, 1) := by decide +kernel
theorem dX7_every_0 : decode cX7_every 0 = .ok (.iload_n 1, 1) := by decide +kernel
theorem dX7_every_1 : decode cX7_every 1 = .ok (.iconst 0, 1) := by decide +kernel
theorem dX7_every_2 : decode cX7_every 2 = .ok (.bipush 100, 2) := by decide +kernel
theorem dX7_every_4 : decode cX7_every 4 = .ok (.invokestatic 85, 3) := by decide +kernel
theorem dX7_every_7 : decode cX7_every 7 = .ok (.ifCond .ne 5, 3) := by decide +kernel
theorem dX7_every_10 : decode cX7_every 10 = .ok (.iconst (-1), 1) := by decide +kernel
theorem dX7_every_11 : decode cX7_every 11 = .ok (.ireturn, 1) := by decide +kernel
theorem dX7_every_12 : decode cX7_every 12 = .ok (.aload_n 0, 1) := by decide +kernel
theorem dX7_every_13 : decode cX7_every 13 = .ok (.getfield 138, 3) := by decide +kernel
theorem dX7_every_16 : decode cX7_every 16 = .ok (.istore_n 2, 1) := by decide +kernel
theorem dX7_every_17 : decode cX7_every 17 = .ok (.aload_n 0, 1) := by decide +kernel
theorem dX7_every_18 : decode cX7_every 18 = .ok (.iload_n 1, 1) := by decide +kernel
theorem dX7_every_19 : decode cX7_every 19 = .ok (.putfield 138, 3) := by decide +kernel
theorem dX7_every_22 : decode cX7_every 22 = .ok (.iload_n 2, 1) := by decide +kernel
theorem dX7_every_23 : decode cX7_every 23 = .ok (.ireturn, 1) := by decide +kernel
theorem dX7_mend_0 : decode cX7_mend 0 = .ok (.aload_n 0, 1) := by decide +kernel
theorem dX7_mend_1 : decode cX7_mend 1 = .ok (.iload_n 1, 1) := by decide +kernel
theorem dX7_mend_2 : decode cX7_mend 2 = .ok (.invokevirtual 113, 3) := by decide +kernel
theorem dX7_mend_5 : decode cX7_mend 5 = .ok (.ifCond .eq 11, 3) := by decide +kernel
theorem dX7_mend_8 : decode cX7_mend 8 = .ok (.aload_n 0, 1) := by decide +kernel
theorem dX7_mend_9 : decode cX7_mend 9 = .ok (.iload_n 2, 1) := by decide +kernel
theorem dX7_mend_10 : decode cX7_mend 10 = .ok (.invokevirtual 117, 3) := by decide +kernel
theorem dX7_mend_13 : decode cX7_mend 13 = .ok (.ifCond .ne 5, 3) := by decide +kernel
theorem dX7_mend_16 : decode cX7_mend 16 = .ok (.iconst (-1), 1) := by decide +kernel
theorem dX7_mend_17 : decode cX7_mend 17 = .ok (.ireturn, 1) := by decide +kernel
theorem dX7_mend_18 : decode cX7_mend 18 = .ok (.aload_n 0, 1) := by decide +kernel
theorem dX7_mend_19 : decode cX7_mend 19 = .ok (.iload_n 1, 1) := by decide +kernel
theorem dX7_mend_20 : decode cX7_mend 20 = .ok (.iload_n 2, 1) := by decide +kernel
theorem dX7_mend_21 : decode cX7_mend 21 = .ok (.invokevirtual 99, 3) := by decide +kernel
theorem dX7_mend_24 : decode cX7_mend 24 = .ok (.lstore_n 3, 1) := by decide +kernel
theorem dX7_mend_25 : decode cX7_mend 25 = .ok (.aload_n 0, 1) := by decide +kernel
theorem dX7_mend_26 : decode cX7_mend 26 = .ok (.getfield 32, 3) := by decide +kernel
theorem dX7_mend_29 : decode cX7_mend 29 = .ok (.bipush 12, 2) := by decide +kernel
theorem dX7_mend_31 : decode cX7_mend 31 = .ok (.iload_n 1, 1) := by decide +kernel
theorem dX7_mend_32 : decode cX7_mend 32 = .ok (.imul, 1) := by decide +kernel
theorem dX7_mend_33 : decode cX7_mend 33 = .ok (.iload_n 2, 1) := by decide +kernel
theorem dX7_mend_34 : decode cX7_mend 34 = .ok (.iadd, 1) := by decide +kernel
theorem dX7_mend_35 : decode cX7_mend 35 = .ok (.laload, 1) := by decide +kernel
theorem dX7_mend_36 : decode cX7_mend 36 = .ok (.lload_n 3, 1) := by decide +kernel
theorem dX7_mend_37 : decode cX7_mend 37 = .ok (.lcmp, 1) := by decide +kernel
theorem dX7_mend_38 : decode cX7_mend 38 = .ok (.ifCond .eq 7, 3) := by decide +kernel
theorem dX7_mend_41 : decode cX7_mend 41 = .ok (.iconst 1, 1) := by decide +kernel
theorem dX7_mend_42 : decode cX7_mend 42 = .ok (.goto 4, 3) := by decide +kernel
theorem dX7_mend_45 : decode cX7_mend 45 = .ok (.iconst 0, 1) := by decide +kernel
theorem dX7_mend_46 : decode cX7_mend 46 = .ok (.istore 5, 2) := by decide +kernel
theorem dX7_mend_48 : decode cX7_mend 48 = .ok (.aload_n 0, 1) := by decide +kernel
theorem dX7_mend_49 : decode cX7_mend 49 = .ok (.getfield 32, 3) := by decide +kernel
theorem dX7_mend_52 : decode cX7_mend 52 = .ok (.bipush 12, 2) := by decide +kernel
theorem dX7_mend_54 : decode cX7_mend 54 = .ok (.iload_n 1, 1) := by decide +kernel
theorem dX7_mend_55 : decode cX7_mend 55 = .ok (.imul, 1) := by decide +kernel
theorem dX7_mend_56 : decode cX7_mend 56 = .ok (.iload_n 2, 1) := by decide +kernel
theorem dX7_mend_57 : decode cX7_mend 57 = .ok (.iadd, 1) := by decide +kernel
theorem dX7_mend_58 : decode cX7_mend 58 = .ok (.lload_n 3, 1) := by decide +kernel
theorem dX7_mend_59 : decode cX7_mend 59 = .ok (.lastore, 1) := by decide +kernel
theorem dX7_mend_60 : decode cX7_mend 60 = .ok (.iload 5, 2) := by decide +kernel
theorem dX7_mend_62 : decode cX7_mend 62 = .ok (.ifCond .eq 7, 3) := by decide +kernel
theorem dX7_mend_65 : decode cX7_mend 65 = .ok (.iconst 1, 1) := by decide +kernel
theorem dX7_mend_66 : decode cX7_mend 66 = .ok (.goto 4, 3) := by decide +kernel
theorem dX7_mend_69 : decode cX7_mend 69 = .ok (.iconst 0, 1) := by decide +kernel
theorem dX7_mend_70 : decode cX7_mend 70 = .ok (.ireturn, 1) := by decide +kernel
theorem dX7_keep_0 : decode cX7_keep 0 = .ok (.aload_n 0, 1) := by decide +kernel
theorem dX7_keep_1 : decode cX7_keep 1 = .ok (.iload_n 1, 1) := by decide +kernel
theorem dX7_keep_2 : decode cX7_keep 2 = .ok (.invokevirtual 113, 3) := by decide +kernel
theorem dX7_keep_5 : decode cX7_keep 5 = .ok (.ifCond .ne 5, 3) := by decide +kernel
theorem dX7_keep_8 : decode cX7_keep 8 = .ok (.iconst (-1), 1) := by decide +kernel
theorem dX7_keep_9 : decode cX7_keep 9 = .ok (.ireturn, 1) := by decide +kernel
theorem dX7_keep_10 : decode cX7_keep 10 = .ok (.aload_n 0, 1) := by decide +kernel
theorem dX7_keep_11 : decode cX7_keep 11 = .ok (.getfield 155, 3) := by decide +kernel
theorem dX7_keep_14 : decode cX7_keep 14 = .ok (.bipush 20, 2) := by decide +kernel
theorem dX7_keep_16 : decode cX7_keep 16 = .ok (.if_icmp .ne 6, 3) := by decide +kernel
theorem dX7_keep_19 : decode cX7_keep 19 = .ok (.bipush (-4), 2) := by decide +kernel
theorem dX7_keep_21 : decode cX7_keep 21 = .ok (.ireturn, 1) := by decide +kernel
theorem dX7_keep_22 : decode cX7_keep 22 = .ok (.iconst 0, 1) := by decide +kernel
theorem dX7_keep_23 : decode cX7_keep 23 = .ok (.istore_n 2, 1) := by decide +kernel
theorem dX7_keep_24 : decode cX7_keep 24 = .ok (.iload_n 2, 1) := by decide +kernel
theorem dX7_keep_25 : decode cX7_keep 25 = .ok (.iconst 3, 1) := by decide +kernel
theorem dX7_keep_26 : decode cX7_keep 26 = .ok (.if_icmp .ge 28, 3) := by decide +kernel
theorem dX7_keep_29 : decode cX7_keep 29 = .ok (.aload_n 0, 1) := by decide +kernel
theorem dX7_keep_30 : decode cX7_keep 30 = .ok (.getfield 70, 3) := by decide +kernel
theorem dX7_keep_33 : decode cX7_keep 33 = .ok (.iconst 3, 1) := by decide +kernel
theorem dX7_keep_34 : decode cX7_keep 34 = .ok (.aload_n 0, 1) := by decide +kernel
theorem dX7_keep_35 : decode cX7_keep 35 = .ok (.getfield 155, 3) := by decide +kernel
theorem dX7_keep_38 : decode cX7_keep 38 = .ok (.imul, 1) := by decide +kernel
theorem dX7_keep_39 : decode cX7_keep 39 = .ok (.iload_n 2, 1) := by decide +kernel
theorem dX7_keep_40 : decode cX7_keep 40 = .ok (.iadd, 1) := by decide +kernel
theorem dX7_keep_41 : decode cX7_keep 41 = .ok (.aload_n 0, 1) := by decide +kernel
theorem dX7_keep_42 : decode cX7_keep 42 = .ok (.iload_n 1, 1) := by decide +kernel
theorem dX7_keep_43 : decode cX7_keep 43 = .ok (.iload_n 2, 1) := by decide +kernel
theorem dX7_keep_44 : decode cX7_keep 44 = .ok (.invokevirtual 149, 3) := by decide +kernel
theorem dX7_keep_47 : decode cX7_keep 47 = .ok (.lastore, 1) := by decide +kernel
theorem dX7_keep_48 : decode cX7_keep 48 = .ok (.iinc 2 1, 3) := by decide +kernel
theorem dX7_keep_51 : decode cX7_keep 51 = .ok (.goto (-27), 3) := by decide +kernel
theorem dX7_keep_54 : decode cX7_keep 54 = .ok (.iconst 0, 1) := by decide +kernel
theorem dX7_keep_55 : decode cX7_keep 55 = .ok (.istore_n 2, 1) := by decide +kernel
theorem dX7_keep_56 : decode cX7_keep 56 = .ok (.iload_n 2, 1) := by decide +kernel
theorem dX7_keep_57 : decode cX7_keep 57 = .ok (.sipush 160, 3) := by decide +kernel
theorem dX7_keep_60 : decode cX7_keep 60 = .ok (.if_icmp .ge 36, 3) := by decide +kernel
theorem dX7_keep_63 : decode cX7_keep 63 = .ok (.aload_n 0, 1) := by decide +kernel
theorem dX7_keep_64 : decode cX7_keep 64 = .ok (.getfield 73, 3) := by decide +kernel
theorem dX7_keep_67 : decode cX7_keep 67 = .ok (.sipush 160, 3) := by decide +kernel
theorem dX7_keep_70 : decode cX7_keep 70 = .ok (.aload_n 0, 1) := by decide +kernel
theorem dX7_keep_71 : decode cX7_keep 71 = .ok (.getfield 155, 3) := by decide +kernel
theorem dX7_keep_74 : decode cX7_keep 74 = .ok (.imul, 1) := by decide +kernel
theorem dX7_keep_75 : decode cX7_keep 75 = .ok (.iload_n 2, 1) := by decide +kernel
theorem dX7_keep_76 : decode cX7_keep 76 = .ok (.iadd, 1) := by decide +kernel
theorem dX7_keep_77 : decode cX7_keep 77 = .ok (.aload_n 0, 1) := by decide +kernel
theorem dX7_keep_78 : decode cX7_keep 78 = .ok (.getfield 29, 3) := by decide +kernel
theorem dX7_keep_81 : decode cX7_keep 81 = .ok (.sipush 160, 3) := by decide +kernel
theorem dX7_keep_84 : decode cX7_keep 84 = .ok (.iload_n 1, 1) := by decide +kernel
theorem dX7_keep_85 : decode cX7_keep 85 = .ok (.imul, 1) := by decide +kernel
theorem dX7_keep_86 : decode cX7_keep 86 = .ok (.iload_n 2, 1) := by decide +kernel
theorem dX7_keep_87 : decode cX7_keep 87 = .ok (.iadd, 1) := by decide +kernel
theorem dX7_keep_88 : decode cX7_keep 88 = .ok (.iaload, 1) := by decide +kernel
theorem dX7_keep_89 : decode cX7_keep 89 = .ok (.iastore, 1) := by decide +kernel
theorem dX7_keep_90 : decode cX7_keep 90 = .ok (.iinc 2 1, 3) := by decide +kernel
theorem dX7_keep_93 : decode cX7_keep 93 = .ok (.goto (-37), 3) := by decide +kernel
theorem dX7_keep_96 : decode cX7_keep 96 = .ok (.aload_n 0, 1) := by decide +kernel
theorem dX7_keep_97 : decode cX7_keep 97 = .ok (.getfield 76, 3) := by decide +kernel
theorem dX7_keep_100 : decode cX7_keep 100 = .ok (.aload_n 0, 1) := by decide +kernel
theorem dX7_keep_101 : decode cX7_keep 101 = .ok (.getfield 155, 3) := by decide +kernel
theorem dX7_keep_104 : decode cX7_keep 104 = .ok (.aload_n 0, 1) := by decide +kernel
theorem dX7_keep_105 : decode cX7_keep 105 = .ok (.getfield 89, 3) := by decide +kernel
theorem dX7_keep_108 : decode cX7_keep 108 = .ok (.iastore, 1) := by decide +kernel
theorem dX7_keep_109 : decode cX7_keep 109 = .ok (.aload_n 0, 1) := by decide +kernel
theorem dX7_keep_110 : decode cX7_keep 110 = .ok (.dup, 1) := by decide +kernel
theorem dX7_keep_111 : decode cX7_keep 111 = .ok (.getfield 155, 3) := by decide +kernel
theorem dX7_keep_114 : decode cX7_keep 114 = .ok (.iconst 1, 1) := by decide +kernel
theorem dX7_keep_115 : decode cX7_keep 115 = .ok (.iadd, 1) := by decide +kernel
theorem dX7_keep_116 : decode cX7_keep 116 = .ok (.putfield 155, 3) := by decide +kernel
theorem dX7_keep_119 : decode cX7_keep 119 = .ok (.aload_n 0, 1) := by decide +kernel
theorem dX7_keep_120 : decode cX7_keep 120 = .ok (.getfield 155, 3) := by decide +kernel
theorem dX7_keep_123 : decode cX7_keep 123 = .ok (.iconst 1, 1) := by decide +kernel
theorem dX7_keep_124 : decode cX7_keep 124 = .ok (.isub, 1) := by decide +kernel
theorem dX7_keep_125 : decode cX7_keep 125 = .ok (.ireturn, 1) := by decide +kernel
theorem dX7_kept_0 : decode cX7_kept 0 = .ok (.iload_n 1, 1) := by decide +kernel
theorem dX7_kept_1 : decode cX7_kept 1 = .ok (.iconst 0, 1) := by decide +kernel
theorem dX7_kept_2 : decode cX7_kept 2 = .ok (.aload_n 0, 1) := by decide +kernel
theorem dX7_kept_3 : decode cX7_kept 3 = .ok (.getfield 155, 3) := by decide +kernel
theorem dX7_kept_6 : decode cX7_kept 6 = .ok (.iconst 1, 1) := by decide +kernel
theorem dX7_kept_7 : decode cX7_kept 7 = .ok (.isub, 1) := by decide +kernel
theorem dX7_kept_8 : decode cX7_kept 8 = .ok (.invokestatic 85, 3) := by decide +kernel
theorem dX7_kept_11 : decode cX7_kept 11 = .ok (.ifCond .eq 25, 3) := by decide +kernel
theorem dX7_kept_14 : decode cX7_kept 14 = .ok (.iload_n 2, 1) := by decide +kernel
theorem dX7_kept_15 : decode cX7_kept 15 = .ok (.iconst 0, 1) := by decide +kernel
theorem dX7_kept_16 : decode cX7_kept 16 = .ok (.iconst 2, 1) := by decide +kernel
theorem dX7_kept_17 : decode cX7_kept 17 = .ok (.invokestatic 85, 3) := by decide +kernel
theorem dX7_kept_20 : decode cX7_kept 20 = .ok (.ifCond .eq 16, 3) := by decide +kernel
theorem dX7_kept_23 : decode cX7_kept 23 = .ok (.aload_n 0, 1) := by decide +kernel
theorem dX7_kept_24 : decode cX7_kept 24 = .ok (.getfield 70, 3) := by decide +kernel
theorem dX7_kept_27 : decode cX7_kept 27 = .ok (.iconst 3, 1) := by decide +kernel
theorem dX7_kept_28 : decode cX7_kept 28 = .ok (.iload_n 1, 1) := by decide +kernel
theorem dX7_kept_29 : decode cX7_kept 29 = .ok (.imul, 1) := by decide +kernel
theorem dX7_kept_30 : decode cX7_kept 30 = .ok (.iload_n 2, 1) := by decide +kernel
theorem dX7_kept_31 : decode cX7_kept 31 = .ok (.iadd, 1) := by decide +kernel
theorem dX7_kept_32 : decode cX7_kept 32 = .ok (.laload, 1) := by decide +kernel
theorem dX7_kept_33 : decode cX7_kept 33 = .ok (.goto 6, 3) := by decide +kernel
theorem dX7_kept_36 : decode cX7_kept 36 = .ok (.ldc2_w 147, 3) := by decide +kernel
theorem dX7_kept_39 : decode cX7_kept 39 = .ok (.lreturn, 1) := by decide +kernel
theorem dX7_then_0 : decode cX7_then 0 = .ok (.iload_n 1, 1) := by decide +kernel
theorem dX7_then_1 : decode cX7_then 1 = .ok (.iconst 0, 1) := by decide +kernel
theorem dX7_then_2 : decode cX7_then 2 = .ok (.aload_n 0, 1) := by decide +kernel
theorem dX7_then_3 : decode cX7_then 3 = .ok (.getfield 155, 3) := by decide +kernel
theorem dX7_then_6 : decode cX7_then 6 = .ok (.iconst 1, 1) := by decide +kernel
theorem dX7_then_7 : decode cX7_then 7 = .ok (.isub, 1) := by decide +kernel
theorem dX7_then_8 : decode cX7_then 8 = .ok (.invokestatic 85, 3) := by decide +kernel
theorem dX7_then_11 : decode cX7_then 11 = .ok (.ifCond .eq 47, 3) := by decide +kernel
theorem dX7_then_14 : decode cX7_then 14 = .ok (.iload_n 2, 1) := by decide +kernel
theorem dX7_then_15 : decode cX7_then 15 = .ok (.iconst 0, 1) := by decide +kernel
theorem dX7_then_16 : decode cX7_then 16 = .ok (.aload_n 0, 1) := by decide +kernel
theorem dX7_then_17 : decode cX7_then 17 = .ok (.getfield 76, 3) := by decide +kernel
theorem dX7_then_20 : decode cX7_then 20 = .ok (.iload_n 1, 1) := by decide +kernel
theorem dX7_then_21 : decode cX7_then 21 = .ok (.iaload, 1) := by decide +kernel
theorem dX7_then_22 : decode cX7_then 22 = .ok (.iconst 1, 1) := by decide +kernel
theorem dX7_then_23 : decode cX7_then 23 = .ok (.isub, 1) := by decide +kernel
theorem dX7_then_24 : decode cX7_then 24 = .ok (.invokestatic 85, 3) := by decide +kernel
theorem dX7_then_27 : decode cX7_then 27 = .ok (.ifCond .eq 31, 3) := by decide +kernel
theorem dX7_then_30 : decode cX7_then 30 = .ok (.iload_n 3, 1) := by decide +kernel
theorem dX7_then_31 : decode cX7_then 31 = .ok (.iconst 0, 1) := by decide +kernel
theorem dX7_then_32 : decode cX7_then 32 = .ok (.iconst 3, 1) := by decide +kernel
theorem dX7_then_33 : decode cX7_then 33 = .ok (.invokestatic 85, 3) := by decide +kernel
theorem dX7_then_36 : decode cX7_then 36 = .ok (.ifCond .eq 22, 3) := by decide +kernel
theorem dX7_then_39 : decode cX7_then 39 = .ok (.aload_n 0, 1) := by decide +kernel
theorem dX7_then_40 : decode cX7_then 40 = .ok (.getfield 73, 3) := by decide +kernel
theorem dX7_then_43 : decode cX7_then 43 = .ok (.sipush 160, 3) := by decide +kernel
theorem dX7_then_46 : decode cX7_then 46 = .ok (.iload_n 1, 1) := by decide +kernel
theorem dX7_then_47 : decode cX7_then 47 = .ok (.imul, 1) := by decide +kernel
end
section
theorem dX7_then_48 : decode cX7_then 48 = .ok (.iconst 4, 1) := by decide +kernel
theorem dX7_then_49 : decode cX7_then 49 = .ok (.iload_n 2, 1) := by decide +kernel
theorem dX7_then_50 : decode cX7_then 50 = .ok (.imul, 1) := by decide +kernel
theorem dX7_then_51 : decode cX7_then 51 = .ok (.iadd, 1) := by decide +kernel
theorem dX7_then_52 : decode cX7_then 52 = .ok (.iload_n 3, 1) := by decide +kernel
theorem dX7_then_53 : decode cX7_then 53 = .ok (.iadd, 1) := by decide +kernel
theorem dX7_then_54 : decode cX7_then 54 = .ok (.iaload, 1) := by decide +kernel
theorem dX7_then_55 : decode cX7_then 55 = .ok (.goto 5, 3) := by decide +kernel
theorem dX7_then_58 : decode cX7_then 58 = .ok (.ldc 111, 2) := by decide +kernel
theorem dX7_then_60 : decode cX7_then 60 = .ok (.ireturn, 1) := by decide +kernel
theorem dX7_told_0 : decode cX7_told 0 = .ok (.aload_n 0, 1) := by decide +kernel
theorem dX7_told_1 : decode cX7_told 1 = .ok (.iload_n 1, 1) := by decide +kernel
theorem dX7_told_2 : decode cX7_told 2 = .ok (.invokevirtual 113, 3) := by decide +kernel
theorem dX7_told_5 : decode cX7_told 5 = .ok (.ifCond .eq 12, 3) := by decide +kernel
theorem dX7_told_8 : decode cX7_told 8 = .ok (.iload_n 2, 1) := by decide +kernel
theorem dX7_told_9 : decode cX7_told 9 = .ok (.iconst 0, 1) := by decide +kernel
theorem dX7_told_10 : decode cX7_told 10 = .ok (.iconst 5, 1) := by decide +kernel
theorem dX7_told_11 : decode cX7_told 11 = .ok (.invokestatic 85, 3) := by decide +kernel
theorem dX7_told_14 : decode cX7_told 14 = .ok (.ifCond .ne 5, 3) := by decide +kernel
theorem dX7_told_17 : decode cX7_told 17 = .ok (.iconst (-1), 1) := by decide +kernel
theorem dX7_told_18 : decode cX7_told 18 = .ok (.ireturn, 1) := by decide +kernel
theorem dX7_told_19 : decode cX7_told 19 = .ok (.iconst 0, 1) := by decide +kernel
theorem dX7_told_20 : decode cX7_told 20 = .ok (.istore_n 3, 1) := by decide +kernel
theorem dX7_told_21 : decode cX7_told 21 = .ok (.iconst 0, 1) := by decide +kernel
theorem dX7_told_22 : decode cX7_told 22 = .ok (.istore 4, 2) := by decide +kernel
theorem dX7_told_24 : decode cX7_told 24 = .ok (.iload 4, 2) := by decide +kernel
theorem dX7_told_26 : decode cX7_told 26 = .ok (.aload_n 0, 1) := by decide +kernel
theorem dX7_told_27 : decode cX7_told 27 = .ok (.getfield 96, 3) := by decide +kernel
theorem dX7_told_30 : decode cX7_told 30 = .ok (.if_icmp .ge 32, 3) := by decide +kernel
theorem dX7_told_33 : decode cX7_told 33 = .ok (.iload_n 3, 1) := by decide +kernel
theorem dX7_told_34 : decode cX7_told 34 = .ok (.aload_n 0, 1) := by decide +kernel
theorem dX7_told_35 : decode cX7_told 35 = .ok (.getfield 36, 3) := by decide +kernel
theorem dX7_told_38 : decode cX7_told 38 = .ok (.bipush 12, 2) := by decide +kernel
theorem dX7_told_40 : decode cX7_told 40 = .ok (.iload_n 1, 1) := by decide +kernel
theorem dX7_told_41 : decode cX7_told 41 = .ok (.imul, 1) := by decide +kernel
theorem dX7_told_42 : decode cX7_told 42 = .ok (.iload 4, 2) := by decide +kernel
theorem dX7_told_44 : decode cX7_told 44 = .ok (.iadd, 1) := by decide +kernel
theorem dX7_told_45 : decode cX7_told 45 = .ok (.baload, 1) := by decide +kernel
theorem dX7_told_46 : decode cX7_told 46 = .ok (.ifCond .eq 7, 3) := by decide +kernel
theorem dX7_told_49 : decode cX7_told 49 = .ok (.iconst 1, 1) := by decide +kernel
theorem dX7_told_50 : decode cX7_told 50 = .ok (.goto 4, 3) := by decide +kernel
theorem dX7_told_53 : decode cX7_told 53 = .ok (.iconst 0, 1) := by decide +kernel
theorem dX7_told_54 : decode cX7_told 54 = .ok (.iadd, 1) := by decide +kernel
theorem dX7_told_55 : decode cX7_told 55 = .ok (.istore_n 3, 1) := by decide +kernel
theorem dX7_told_56 : decode cX7_told 56 = .ok (.iinc 4 1, 3) := by decide +kernel
theorem dX7_told_59 : decode cX7_told 59 = .ok (.goto (-35), 3) := by decide +kernel
theorem dX7_told_62 : decode cX7_told 62 = .ok (.iload_n 2, 1) := by decide +kernel
theorem dX7_told_63 : decode cX7_told 63 = .ok (.ifCond .ne 12, 3) := by decide +kernel
theorem dX7_told_66 : decode cX7_told 66 = .ok (.aload_n 0, 1) := by decide +kernel
theorem dX7_told_67 : decode cX7_told 67 = .ok (.getfield 40, 3) := by decide +kernel
theorem dX7_told_70 : decode cX7_told 70 = .ok (.iload_n 1, 1) := by decide +kernel
theorem dX7_told_71 : decode cX7_told 71 = .ok (.iaload, 1) := by decide +kernel
theorem dX7_told_72 : decode cX7_told 72 = .ok (.goto 68, 3) := by decide +kernel
theorem dX7_told_75 : decode cX7_told 75 = .ok (.iload_n 2, 1) := by decide +kernel
theorem dX7_told_76 : decode cX7_told 76 = .ok (.iconst 1, 1) := by decide +kernel
theorem dX7_told_77 : decode cX7_told 77 = .ok (.if_icmp .ne 12, 3) := by decide +kernel
theorem dX7_told_80 : decode cX7_told 80 = .ok (.aload_n 0, 1) := by decide +kernel
theorem dX7_told_81 : decode cX7_told 81 = .ok (.getfield 55, 3) := by decide +kernel
theorem dX7_told_84 : decode cX7_told 84 = .ok (.iload_n 1, 1) := by decide +kernel
theorem dX7_told_85 : decode cX7_told 85 = .ok (.iaload, 1) := by decide +kernel
theorem dX7_told_86 : decode cX7_told 86 = .ok (.goto 54, 3) := by decide +kernel
theorem dX7_told_89 : decode cX7_told 89 = .ok (.iload_n 2, 1) := by decide +kernel
theorem dX7_told_90 : decode cX7_told 90 = .ok (.iconst 2, 1) := by decide +kernel
theorem dX7_told_91 : decode cX7_told 91 = .ok (.if_icmp .ne 12, 3) := by decide +kernel
theorem dX7_told_94 : decode cX7_told 94 = .ok (.aload_n 0, 1) := by decide +kernel
theorem dX7_told_95 : decode cX7_told 95 = .ok (.getfield 43, 3) := by decide +kernel
theorem dX7_told_98 : decode cX7_told 98 = .ok (.iload_n 1, 1) := by decide +kernel
theorem dX7_told_99 : decode cX7_told 99 = .ok (.iaload, 1) := by decide +kernel
theorem dX7_told_100 : decode cX7_told 100 = .ok (.goto 40, 3) := by decide +kernel
theorem dX7_told_103 : decode cX7_told 103 = .ok (.iload_n 2, 1) := by decide +kernel
theorem dX7_told_104 : decode cX7_told 104 = .ok (.iconst 3, 1) := by decide +kernel
theorem dX7_told_105 : decode cX7_told 105 = .ok (.if_icmp .ne 12, 3) := by decide +kernel
theorem dX7_told_108 : decode cX7_told 108 = .ok (.aload_n 0, 1) := by decide +kernel
theorem dX7_told_109 : decode cX7_told 109 = .ok (.getfield 46, 3) := by decide +kernel
theorem dX7_told_112 : decode cX7_told 112 = .ok (.iload_n 1, 1) := by decide +kernel
theorem dX7_told_113 : decode cX7_told 113 = .ok (.iaload, 1) := by decide +kernel
theorem dX7_told_114 : decode cX7_told 114 = .ok (.goto 26, 3) := by decide +kernel
theorem dX7_told_117 : decode cX7_told 117 = .ok (.iload_n 2, 1) := by decide +kernel
theorem dX7_told_118 : decode cX7_told 118 = .ok (.iconst 4, 1) := by decide +kernel
theorem dX7_told_119 : decode cX7_told 119 = .ok (.if_icmp .ne 20, 3) := by decide +kernel
theorem dX7_told_122 : decode cX7_told 122 = .ok (.aload_n 0, 1) := by decide +kernel
theorem dX7_told_123 : decode cX7_told 123 = .ok (.getfield 49, 3) := by decide +kernel
theorem dX7_told_126 : decode cX7_told 126 = .ok (.iload_n 1, 1) := by decide +kernel
theorem dX7_told_127 : decode cX7_told 127 = .ok (.baload, 1) := by decide +kernel
theorem dX7_told_128 : decode cX7_told 128 = .ok (.ifCond .eq 7, 3) := by decide +kernel
theorem dX7_told_131 : decode cX7_told 131 = .ok (.iconst 1, 1) := by decide +kernel
theorem dX7_told_132 : decode cX7_told 132 = .ok (.goto 8, 3) := by decide +kernel
theorem dX7_told_135 : decode cX7_told 135 = .ok (.iconst 0, 1) := by decide +kernel
theorem dX7_told_136 : decode cX7_told 136 = .ok (.goto 4, 3) := by decide +kernel
theorem dX7_told_139 : decode cX7_told 139 = .ok (.iload_n 3, 1) := by decide +kernel
theorem dX7_told_140 : decode cX7_told 140 = .ok (.ireturn, 1) := by decide +kernel
theorem dX7_all_0 : decode cX7_all 0 = .ok (.iload_n 1, 1) := by decide +kernel
theorem dX7_all_1 : decode cX7_all 1 = .ok (.ifCond .ne 10, 3) := by decide +kernel
theorem dX7_all_4 : decode cX7_all 4 = .ok (.aload_n 0, 1) := by decide +kernel
theorem dX7_all_5 : decode cX7_all 5 = .ok (.getfield 89, 3) := by decide +kernel
theorem dX7_all_8 : decode cX7_all 8 = .ok (.goto 52, 3) := by decide +kernel
theorem dX7_all_11 : decode cX7_all 11 = .ok (.iload_n 1, 1) := by decide +kernel
theorem dX7_all_12 : decode cX7_all 12 = .ok (.iconst 1, 1) := by decide +kernel
theorem dX7_all_13 : decode cX7_all 13 = .ok (.if_icmp .ne 10, 3) := by decide +kernel
theorem dX7_all_16 : decode cX7_all 16 = .ok (.aload_n 0, 1) := by decide +kernel
theorem dX7_all_17 : decode cX7_all 17 = .ok (.getfield 96, 3) := by decide +kernel
theorem dX7_all_20 : decode cX7_all 20 = .ok (.goto 40, 3) := by decide +kernel
theorem dX7_all_23 : decode cX7_all 23 = .ok (.iload_n 1, 1) := by decide +kernel
theorem dX7_all_24 : decode cX7_all 24 = .ok (.iconst 2, 1) := by decide +kernel
theorem dX7_all_25 : decode cX7_all 25 = .ok (.if_icmp .ne 10, 3) := by decide +kernel
theorem dX7_all_28 : decode cX7_all 28 = .ok (.aload_n 0, 1) := by decide +kernel
theorem dX7_all_29 : decode cX7_all 29 = .ok (.getfield 25, 3) := by decide +kernel
theorem dX7_all_32 : decode cX7_all 32 = .ok (.goto 28, 3) := by decide +kernel
theorem dX7_all_35 : decode cX7_all 35 = .ok (.iload_n 1, 1) := by decide +kernel
theorem dX7_all_36 : decode cX7_all 36 = .ok (.iconst 3, 1) := by decide +kernel
theorem dX7_all_37 : decode cX7_all 37 = .ok (.if_icmp .ne 10, 3) := by decide +kernel
theorem dX7_all_40 : decode cX7_all 40 = .ok (.aload_n 0, 1) := by decide +kernel
theorem dX7_all_41 : decode cX7_all 41 = .ok (.getfield 138, 3) := by decide +kernel
theorem dX7_all_44 : decode cX7_all 44 = .ok (.goto 16, 3) := by decide +kernel
theorem dX7_all_47 : decode cX7_all 47 = .ok (.iload_n 1, 1) := by decide +kernel
theorem dX7_all_48 : decode cX7_all 48 = .ok (.iconst 4, 1) := by decide +kernel
theorem dX7_all_49 : decode cX7_all 49 = .ok (.if_icmp .ne 10, 3) := by decide +kernel
theorem dX7_all_52 : decode cX7_all 52 = .ok (.aload_n 0, 1) := by decide +kernel
theorem dX7_all_53 : decode cX7_all 53 = .ok (.getfield 155, 3) := by decide +kernel
theorem dX7_all_56 : decode cX7_all 56 = .ok (.goto 4, 3) := by decide +kernel
theorem dX7_all_59 : decode cX7_all 59 = .ok (.iconst (-1), 1) := by decide +kernel
theorem dX7_all_60 : decode cX7_all 60 = .ok (.ireturn, 1) := by decide +kernel
theorem dJ9_abs_067f4_0 : decode cJ9_abs_067f4 0 = .ok (.lload_n 0, 1) := by decide +kernel
theorem dJ9_abs_067f4_1 : decode cJ9_abs_067f4 1 = .ok (.lconst 0, 1) := by decide +kernel
theorem dJ9_abs_067f4_2 : decode cJ9_abs_067f4 2 = .ok (.lcmp, 1) := by decide +kernel
theorem dJ9_abs_067f4_3 : decode cJ9_abs_067f4 3 = .ok (.ifCond .ge 8, 3) := by decide +kernel
theorem dJ9_abs_067f4_6 : decode cJ9_abs_067f4 6 = .ok (.lload_n 0, 1) := by decide +kernel
theorem dJ9_abs_067f4_7 : decode cJ9_abs_067f4 7 = .ok (.lneg, 1) := by decide +kernel
theorem dJ9_abs_067f4_8 : decode cJ9_abs_067f4 8 = .ok (.goto 4, 3) := by decide +kernel
theorem dJ9_abs_067f4_11 : decode cJ9_abs_067f4 11 = .ok (.lload_n 0, 1) := by decide +kernel
theorem dJ9_abs_067f4_12 : decode cJ9_abs_067f4 12 = .ok (.lreturn, 1) := by decide +kernel
theorem dJ9_max_7cf53_0 : decode cJ9_max_7cf53 0 = .ok (.iload_n 0, 1) := by decide +kernel
theorem dJ9_max_7cf53_1 : decode cJ9_max_7cf53 1 = .ok (.iload_n 1, 1) := by decide +kernel
theorem dJ9_max_7cf53_2 : decode cJ9_max_7cf53 2 = .ok (.if_icmp .lt 7, 3) := by decide +kernel
theorem dJ9_max_7cf53_5 : decode cJ9_max_7cf53 5 = .ok (.iload_n 0, 1) := by decide +kernel
theorem dJ9_max_7cf53_6 : decode cJ9_max_7cf53 6 = .ok (.goto 4, 3) := by decide +kernel
theorem dJ9_max_7cf53_9 : decode cJ9_max_7cf53 9 = .ok (.iload_n 1, 1) := by decide +kernel
theorem dJ9_max_7cf53_10 : decode cJ9_max_7cf53 10 = .ok (.ireturn, 1) := by decide +kernel
theorem dJ9_max_f86c9_0 : decode cJ9_max_f86c9 0 = .ok (.lload_n 0, 1) := by decide +kernel
theorem dJ9_max_f86c9_1 : decode cJ9_max_f86c9 1 = .ok (.lload_n 2, 1) := by decide +kernel
theorem dJ9_max_f86c9_2 : decode cJ9_max_f86c9 2 = .ok (.lcmp, 1) := by decide +kernel
theorem dJ9_max_f86c9_3 : decode cJ9_max_f86c9 3 = .ok (.ifCond .lt 7, 3) := by decide +kernel
theorem dJ9_max_f86c9_6 : decode cJ9_max_f86c9 6 = .ok (.lload_n 0, 1) := by decide +kernel
theorem dJ9_max_f86c9_7 : decode cJ9_max_f86c9 7 = .ok (.goto 4, 3) := by decide +kernel
theorem dJ9_max_f86c9_10 : decode cJ9_max_f86c9 10 = .ok (.lload_n 2, 1) := by decide +kernel
theorem dJ9_max_f86c9_11 : decode cJ9_max_f86c9 11 = .ok (.lreturn, 1) := by decide +kernel
theorem dJ9_min_7cf53_0 : decode cJ9_min_7cf53 0 = .ok (.iload_n 0, 1) := by decide +kernel
theorem dJ9_min_7cf53_1 : decode cJ9_min_7cf53 1 = .ok (.iload_n 1, 1) := by decide +kernel
theorem dJ9_min_7cf53_2 : decode cJ9_min_7cf53 2 = .ok (.if_icmp .gt 7, 3) := by decide +kernel
theorem dJ9_min_7cf53_5 : decode cJ9_min_7cf53 5 = .ok (.iload_n 0, 1) := by decide +kernel
theorem dJ9_min_7cf53_6 : decode cJ9_min_7cf53 6 = .ok (.goto 4, 3) := by decide +kernel
theorem dJ9_min_7cf53_9 : decode cJ9_min_7cf53 9 = .ok (.iload_n 1, 1) := by decide +kernel
theorem dJ9_min_7cf53_10 : decode cJ9_min_7cf53 10 = .ok (.ireturn, 1) := by decide +kernel
theorem dL_law_0 : decode cL_law 0 = .ok (.new 7, 3) := by decide +kernel
theorem dL_law_3 : decode cL_law 3 = .ok (.dup, 1) := by decide +kernel
theorem dL_law_4 : decode cL_law 4 = .ok (.invokespecial 9, 3) := by decide +kernel
theorem dL_law_7 : decode cL_law 7 = .ok (.astore_n 1, 1) := by decide +kernel
theorem dL_law_8 : decode cL_law 8 = .ok (.new 10, 3) := by decide +kernel
theorem dL_law_11 : decode cL_law 11 = .ok (.dup, 1) := by decide +kernel
theorem dL_law_12 : decode cL_law 12 = .ok (.invokespecial 12, 3) := by decide +kernel
theorem dL_law_15 : decode cL_law 15 = .ok (.astore_n 2, 1) := by decide +kernel
theorem dL_law_16 : decode cL_law 16 = .ok (.iconst 0, 1) := by decide +kernel
theorem dL_law_17 : decode cL_law 17 = .ok (.istore_n 3, 1) := by decide +kernel
theorem dL_law_18 : decode cL_law 18 = .ok (.iload_n 3, 1) := by decide +kernel
theorem dL_law_19 : decode cL_law 19 = .ok (.aload_n 0, 1) := by decide +kernel
theorem dL_law_20 : decode cL_law 20 = .ok (.arraylength, 1) := by decide +kernel
theorem dL_law_21 : decode cL_law 21 = .ok (.bipush 6, 2) := by decide +kernel
theorem dL_law_23 : decode cL_law 23 = .ok (.isub, 1) := by decide +kernel
theorem dL_law_24 : decode cL_law 24 = .ok (.if_icmp .gt 836, 3) := by decide +kernel
theorem dL_law_27 : decode cL_law 27 = .ok (.aload_n 0, 1) := by decide +kernel
theorem dL_law_28 : decode cL_law 28 = .ok (.iload_n 3, 1) := by decide +kernel
theorem dL_law_29 : decode cL_law 29 = .ok (.iaload, 1) := by decide +kernel
theorem dL_law_30 : decode cL_law 30 = .ok (.bipush 31, 2) := by decide +kernel
theorem dL_law_32 : decode cL_law 32 = .ok (.iand, 1) := by decide +kernel
theorem dL_law_33 : decode cL_law 33 = .ok (.tableswitch 821 0 19 #[95, 108, 171, 230, 253, 306, 370, 393, 416, 465, 508, 542, 586, 609, 632, 665, 688, 722, 765, 798], 95) := by decide +kernel
theorem dL_law_128 : decode cL_law 128 = .ok (.aload_n 1, 1) := by decide +kernel
theorem dL_law_129 : decode cL_law 129 = .ok (.invokevirtual 13, 3) := by decide +kernel
theorem dL_law_132 : decode cL_law 132 = .ok (.aload_n 2, 1) := by decide +kernel
theorem dL_law_133 : decode cL_law 133 = .ok (.invokevirtual 17, 3) := by decide +kernel
theorem dL_law_136 : decode cL_law 136 = .ok (.if_icmp .eq 718, 3) := by decide +kernel
theorem dL_law_139 : decode cL_law 139 = .ok (.iconst 0, 1) := by decide +kernel
theorem dL_law_140 : decode cL_law 140 = .ok (.ireturn, 1) := by decide +kernel
theorem dL_law_141 : decode cL_law 141 = .ok (.aload_n 1, 1) := by decide +kernel
theorem dL_law_142 : decode cL_law 142 = .ok (.aload_n 0, 1) := by decide +kernel
theorem dL_law_143 : decode cL_law 143 = .ok (.iload_n 3, 1) := by decide +kernel
theorem dL_law_144 : decode cL_law 144 = .ok (.iconst 1, 1) := by decide +kernel
theorem dL_law_145 : decode cL_law 145 = .ok (.iadd, 1) := by decide +kernel
theorem dL_law_146 : decode cL_law 146 = .ok (.iaload, 1) := by decide +kernel
theorem dL_law_147 : decode cL_law 147 = .ok (.aload_n 0, 1) := by decide +kernel
theorem dL_law_148 : decode cL_law 148 = .ok (.iload_n 3, 1) := by decide +kernel
theorem dL_law_149 : decode cL_law 149 = .ok (.iconst 2, 1) := by decide +kernel
theorem dL_law_150 : decode cL_law 150 = .ok (.iadd, 1) := by decide +kernel
theorem dL_law_151 : decode cL_law 151 = .ok (.iaload, 1) := by decide +kernel
theorem dL_law_152 : decode cL_law 152 = .ok (.aload_n 0, 1) := by decide +kernel
theorem dL_law_153 : decode cL_law 153 = .ok (.iload_n 3, 1) := by decide +kernel
theorem dL_law_154 : decode cL_law 154 = .ok (.iconst 3, 1) := by decide +kernel
theorem dL_law_155 : decode cL_law 155 = .ok (.iadd, 1) := by decide +kernel
theorem dL_law_156 : decode cL_law 156 = .ok (.iaload, 1) := by decide +kernel
theorem dL_law_157 : decode cL_law 157 = .ok (.aload_n 0, 1) := by decide +kernel
theorem dL_law_158 : decode cL_law 158 = .ok (.iload_n 3, 1) := by decide +kernel
theorem dL_law_159 : decode cL_law 159 = .ok (.iconst 4, 1) := by decide +kernel
theorem dL_law_160 : decode cL_law 160 = .ok (.iadd, 1) := by decide +kernel
theorem dL_law_161 : decode cL_law 161 = .ok (.iaload, 1) := by decide +kernel
theorem dL_law_162 : decode cL_law 162 = .ok (.aload_n 0, 1) := by decide +kernel
theorem dL_law_163 : decode cL_law 163 = .ok (.iload_n 3, 1) := by decide +kernel
theorem dL_law_164 : decode cL_law 164 = .ok (.iconst 5, 1) := by decide +kernel
theorem dL_law_165 : decode cL_law 165 = .ok (.iadd, 1) := by decide +kernel
theorem dL_law_166 : decode cL_law 166 = .ok (.iaload, 1) := by decide +kernel
theorem dL_law_167 : decode cL_law 167 = .ok (.invokevirtual 18, 3) := by decide +kernel
theorem dL_law_170 : decode cL_law 170 = .ok (.aload_n 2, 1) := by decide +kernel
theorem dL_law_171 : decode cL_law 171 = .ok (.aload_n 0, 1) := by decide +kernel
theorem dL_law_172 : decode cL_law 172 = .ok (.iload_n 3, 1) := by decide +kernel
theorem dL_law_173 : decode cL_law 173 = .ok (.iconst 1, 1) := by decide +kernel
theorem dL_law_174 : decode cL_law 174 = .ok (.iadd, 1) := by decide +kernel
theorem dL_law_175 : decode cL_law 175 = .ok (.iaload, 1) := by decide +kernel
theorem dL_law_176 : decode cL_law 176 = .ok (.aload_n 0, 1) := by decide +kernel
theorem dL_law_177 : decode cL_law 177 = .ok (.iload_n 3, 1) := by decide +kernel
theorem dL_law_178 : decode cL_law 178 = .ok (.iconst 2, 1) := by decide +kernel
theorem dL_law_179 : decode cL_law 179 = .ok (.iadd, 1) := by decide +kernel
theorem dL_law_180 : decode cL_law 180 = .ok (.iaload, 1) := by decide +kernel
theorem dL_law_181 : decode cL_law 181 = .ok (.aload_n 0, 1) := by decide +kernel
theorem dL_law_182 : decode cL_law 182 = .ok (.iload_n 3, 1) := by decide +kernel
theorem dL_law_183 : decode cL_law 183 = .ok (.iconst 3, 1) := by decide +kernel
theorem dL_law_184 : decode cL_law 184 = .ok (.iadd, 1) := by decide +kernel
theorem dL_law_185 : decode cL_law 185 = .ok (.iaload, 1) := by decide +kernel
theorem dL_law_186 : decode cL_law 186 = .ok (.aload_n 0, 1) := by decide +kernel
theorem dL_law_187 : decode cL_law 187 = .ok (.iload_n 3, 1) := by decide +kernel
theorem dL_law_188 : decode cL_law 188 = .ok (.iconst 4, 1) := by decide +kernel
theorem dL_law_189 : decode cL_law 189 = .ok (.iadd, 1) := by decide +kernel
theorem dL_law_190 : decode cL_law 190 = .ok (.iaload, 1) := by decide +kernel
theorem dL_law_191 : decode cL_law 191 = .ok (.aload_n 0, 1) := by decide +kernel
theorem dL_law_192 : decode cL_law 192 = .ok (.iload_n 3, 1) := by decide +kernel
theorem dL_law_193 : decode cL_law 193 = .ok (.iconst 5, 1) := by decide +kernel
theorem dL_law_194 : decode cL_law 194 = .ok (.iadd, 1) := by decide +kernel
theorem dL_law_195 : decode cL_law 195 = .ok (.iaload, 1) := by decide +kernel
theorem dL_law_196 : decode cL_law 196 = .ok (.invokevirtual 22, 3) := by decide +kernel
theorem dL_law_199 : decode cL_law 199 = .ok (.if_icmp .eq 655, 3) := by decide +kernel
theorem dL_law_202 : decode cL_law 202 = .ok (.iconst 0, 1) := by decide +kernel
theorem dL_law_203 : decode cL_law 203 = .ok (.ireturn, 1) := by decide +kernel
theorem dL_law_204 : decode cL_law 204 = .ok (.aload_n 1, 1) := by decide +kernel
theorem dL_law_205 : decode cL_law 205 = .ok (.aload_n 0, 1) := by decide +kernel
theorem dL_law_206 : decode cL_law 206 = .ok (.iload_n 3, 1) := by decide +kernel
theorem dL_law_207 : decode cL_law 207 = .ok (.iconst 1, 1) := by decide +kernel
theorem dL_law_208 : decode cL_law 208 = .ok (.iadd, 1) := by decide +kernel
theorem dL_law_209 : decode cL_law 209 = .ok (.iaload, 1) := by decide +kernel
theorem dL_law_210 : decode cL_law 210 = .ok (.aload_n 0, 1) := by decide +kernel
theorem dL_law_211 : decode cL_law 211 = .ok (.iload_n 3, 1) := by decide +kernel
theorem dL_law_212 : decode cL_law 212 = .ok (.iconst 2, 1) := by decide +kernel
theorem dL_law_213 : decode cL_law 213 = .ok (.iadd, 1) := by decide +kernel
theorem dL_law_214 : decode cL_law 214 = .ok (.iaload, 1) := by decide +kernel
theorem dL_law_215 : decode cL_law 215 = .ok (.aload_n 0, 1) := by decide +kernel
theorem dL_law_216 : decode cL_law 216 = .ok (.iload_n 3, 1) := by decide +kernel
theorem dL_law_217 : decode cL_law 217 = .ok (.iconst 3, 1) := by decide +kernel
theorem dL_law_218 : decode cL_law 218 = .ok (.iadd, 1) := by decide +kernel
theorem dL_law_219 : decode cL_law 219 = .ok (.iaload, 1) := by decide +kernel
theorem dL_law_220 : decode cL_law 220 = .ok (.ifCond .eq 7, 3) := by decide +kernel
theorem dL_law_223 : decode cL_law 223 = .ok (.iconst 1, 1) := by decide +kernel
theorem dL_law_224 : decode cL_law 224 = .ok (.goto 4, 3) := by decide +kernel
theorem dL_law_227 : decode cL_law 227 = .ok (.iconst 0, 1) := by decide +kernel
theorem dL_law_228 : decode cL_law 228 = .ok (.invokevirtual 23, 3) := by decide +kernel
theorem dL_law_231 : decode cL_law 231 = .ok (.aload_n 2, 1) := by decide +kernel
theorem dL_law_232 : decode cL_law 232 = .ok (.aload_n 0, 1) := by decide +kernel
theorem dL_law_233 : decode cL_law 233 = .ok (.iload_n 3, 1) := by decide +kernel
theorem dL_law_234 : decode cL_law 234 = .ok (.iconst 1, 1) := by decide +kernel
theorem dL_law_235 : decode cL_law 235 = .ok (.iadd, 1) := by decide +kernel
theorem dL_law_236 : decode cL_law 236 = .ok (.iaload, 1) := by decide +kernel
theorem dL_law_237 : decode cL_law 237 = .ok (.aload_n 0, 1) := by decide +kernel
theorem dL_law_238 : decode cL_law 238 = .ok (.iload_n 3, 1) := by decide +kernel
theorem dL_law_239 : decode cL_law 239 = .ok (.iconst 2, 1) := by decide +kernel
theorem dL_law_240 : decode cL_law 240 = .ok (.iadd, 1) := by decide +kernel
theorem dL_law_241 : decode cL_law 241 = .ok (.iaload, 1) := by decide +kernel
theorem dL_law_242 : decode cL_law 242 = .ok (.aload_n 0, 1) := by decide +kernel
theorem dL_law_243 : decode cL_law 243 = .ok (.iload_n 3, 1) := by decide +kernel
theorem dL_law_244 : decode cL_law 244 = .ok (.iconst 3, 1) := by decide +kernel
theorem dL_law_245 : decode cL_law 245 = .ok (.iadd, 1) := by decide +kernel
theorem dL_law_246 : decode cL_law 246 = .ok (.iaload, 1) := by decide +kernel
theorem dL_law_247 : decode cL_law 247 = .ok (.ifCond .eq 7, 3) := by decide +kernel
theorem dL_law_250 : decode cL_law 250 = .ok (.iconst 1, 1) := by decide +kernel
theorem dL_law_251 : decode cL_law 251 = .ok (.goto 4, 3) := by decide +kernel
theorem dL_law_254 : decode cL_law 254 = .ok (.iconst 0, 1) := by decide +kernel
theorem dL_law_255 : decode cL_law 255 = .ok (.invokevirtual 27, 3) := by decide +kernel
theorem dL_law_258 : decode cL_law 258 = .ok (.if_icmp .eq 596, 3) := by decide +kernel
theorem dL_law_261 : decode cL_law 261 = .ok (.iconst 0, 1) := by decide +kernel
theorem dL_law_262 : decode cL_law 262 = .ok (.ireturn, 1) := by decide +kernel
theorem dL_law_263 : decode cL_law 263 = .ok (.aload_n 1, 1) := by decide +kernel
theorem dL_law_264 : decode cL_law 264 = .ok (.aload_n 0, 1) := by decide +kernel
theorem dL_law_265 : decode cL_law 265 = .ok (.iload_n 3, 1) := by decide +kernel
theorem dL_law_266 : decode cL_law 266 = .ok (.iconst 1, 1) := by decide +kernel
theorem dL_law_267 : decode cL_law 267 = .ok (.iadd, 1) := by decide +kernel
theorem dL_law_268 : decode cL_law 268 = .ok (.iaload, 1) := by decide +kernel
theorem dL_law_269 : decode cL_law 269 = .ok (.invokevirtual 28, 3) := by decide +kernel
theorem dL_law_272 : decode cL_law 272 = .ok (.aload_n 2, 1) := by decide +kernel
theorem dL_law_273 : decode cL_law 273 = .ok (.aload_n 0, 1) := by decide +kernel
theorem dL_law_274 : decode cL_law 274 = .ok (.iload_n 3, 1) := by decide +kernel
theorem dL_law_275 : decode cL_law 275 = .ok (.iconst 1, 1) := by decide +kernel
theorem dL_law_276 : decode cL_law 276 = .ok (.iadd, 1) := by decide +kernel
theorem dL_law_277 : decode cL_law 277 = .ok (.iaload, 1) := by decide +kernel
theorem dL_law_278 : decode cL_law 278 = .ok (.invokevirtual 32, 3) := by decide +kernel
theorem dL_law_281 : decode cL_law 281 = .ok (.if_icmp .eq 573, 3) := by decide +kernel
theorem dL_law_284 : decode cL_law 284 = .ok (.iconst 0, 1) := by decide +kernel
theorem dL_law_285 : decode cL_law 285 = .ok (.ireturn, 1) := by decide +kernel
theorem dL_law_286 : decode cL_law 286 = .ok (.aload_n 1, 1) := by decide +kernel
theorem dL_law_287 : decode cL_law 287 = .ok (.aload_n 0, 1) := by decide +kernel
theorem dL_law_288 : decode cL_law 288 = .ok (.iload_n 3, 1) := by decide +kernel
theorem dL_law_289 : decode cL_law 289 = .ok (.iconst 1, 1) := by decide +kernel
theorem dL_law_290 : decode cL_law 290 = .ok (.iadd, 1) := by decide +kernel
theorem dL_law_291 : decode cL_law 291 = .ok (.iaload, 1) := by decide +kernel
theorem dL_law_292 : decode cL_law 292 = .ok (.aload_n 0, 1) := by decide +kernel
theorem dL_law_293 : decode cL_law 293 = .ok (.iload_n 3, 1) := by decide +kernel
theorem dL_law_294 : decode cL_law 294 = .ok (.iconst 2, 1) := by decide +kernel
theorem dL_law_295 : decode cL_law 295 = .ok (.iadd, 1) := by decide +kernel
theorem dL_law_296 : decode cL_law 296 = .ok (.iaload, 1) := by decide +kernel
theorem dL_law_297 : decode cL_law 297 = .ok (.aload_n 0, 1) := by decide +kernel
theorem dL_law_298 : decode cL_law 298 = .ok (.iload_n 3, 1) := by decide +kernel
theorem dL_law_299 : decode cL_law 299 = .ok (.iconst 3, 1) := by decide +kernel
theorem dL_law_300 : decode cL_law 300 = .ok (.iadd, 1) := by decide +kernel
theorem dL_law_301 : decode cL_law 301 = .ok (.iaload, 1) := by decide +kernel
theorem dL_law_302 : decode cL_law 302 = .ok (.aload_n 0, 1) := by decide +kernel
theorem dL_law_303 : decode cL_law 303 = .ok (.iload_n 3, 1) := by decide +kernel
theorem dL_law_304 : decode cL_law 304 = .ok (.iconst 4, 1) := by decide +kernel
theorem dL_law_305 : decode cL_law 305 = .ok (.iadd, 1) := by decide +kernel
theorem dL_law_306 : decode cL_law 306 = .ok (.iaload, 1) := by decide +kernel
theorem dL_law_307 : decode cL_law 307 = .ok (.invokevirtual 33, 3) := by decide +kernel
theorem dL_law_310 : decode cL_law 310 = .ok (.aload_n 2, 1) := by decide +kernel
theorem dL_law_311 : decode cL_law 311 = .ok (.aload_n 0, 1) := by decide +kernel
theorem dL_law_312 : decode cL_law 312 = .ok (.iload_n 3, 1) := by decide +kernel
theorem dL_law_313 : decode cL_law 313 = .ok (.iconst 1, 1) := by decide +kernel
theorem dL_law_314 : decode cL_law 314 = .ok (.iadd, 1) := by decide +kernel
theorem dL_law_315 : decode cL_law 315 = .ok (.iaload, 1) := by decide +kernel
theorem dL_law_316 : decode cL_law 316 = .ok (.aload_n 0, 1) := by decide +kernel
theorem dL_law_317 : decode cL_law 317 = .ok (.iload_n 3, 1) := by decide +kernel
theorem dL_law_318 : decode cL_law 318 = .ok (.iconst 2, 1) := by decide +kernel
theorem dL_law_319 : decode cL_law 319 = .ok (.iadd, 1) := by decide +kernel
theorem dL_law_320 : decode cL_law 320 = .ok (.iaload, 1) := by decide +kernel
theorem dL_law_321 : decode cL_law 321 = .ok (.aload_n 0, 1) := by decide +kernel
theorem dL_law_322 : decode cL_law 322 = .ok (.iload_n 3, 1) := by decide +kernel
theorem dL_law_323 : decode cL_law 323 = .ok (.iconst 3, 1) := by decide +kernel
theorem dL_law_324 : decode cL_law 324 = .ok (.iadd, 1) := by decide +kernel
theorem dL_law_325 : decode cL_law 325 = .ok (.iaload, 1) := by decide +kernel
theorem dL_law_326 : decode cL_law 326 = .ok (.aload_n 0, 1) := by decide +kernel
theorem dL_law_327 : decode cL_law 327 = .ok (.iload_n 3, 1) := by decide +kernel
theorem dL_law_328 : decode cL_law 328 = .ok (.iconst 4, 1) := by decide +kernel
theorem dL_law_329 : decode cL_law 329 = .ok (.iadd, 1) := by decide +kernel
theorem dL_law_330 : decode cL_law 330 = .ok (.iaload, 1) := by decide +kernel
theorem dL_law_331 : decode cL_law 331 = .ok (.invokevirtual 37, 3) := by decide +kernel
theorem dL_law_334 : decode cL_law 334 = .ok (.if_icmp .eq 520, 3) := by decide +kernel
theorem dL_law_337 : decode cL_law 337 = .ok (.iconst 0, 1) := by decide +kernel
theorem dL_law_338 : decode cL_law 338 = .ok (.ireturn, 1) := by decide +kernel
theorem dL_law_339 : decode cL_law 339 = .ok (.aload_n 1, 1) := by decide +kernel
theorem dL_law_340 : decode cL_law 340 = .ok (.aload_n 0, 1) := by decide +kernel
theorem dL_law_341 : decode cL_law 341 = .ok (.iload_n 3, 1) := by decide +kernel
theorem dL_law_342 : decode cL_law 342 = .ok (.iconst 1, 1) := by decide +kernel
theorem dL_law_343 : decode cL_law 343 = .ok (.iadd, 1) := by decide +kernel
theorem dL_law_344 : decode cL_law 344 = .ok (.iaload, 1) := by decide +kernel
theorem dL_law_345 : decode cL_law 345 = .ok (.aload_n 0, 1) := by decide +kernel
theorem dL_law_346 : decode cL_law 346 = .ok (.iload_n 3, 1) := by decide +kernel
theorem dL_law_347 : decode cL_law 347 = .ok (.iconst 2, 1) := by decide +kernel
theorem dL_law_348 : decode cL_law 348 = .ok (.iadd, 1) := by decide +kernel
theorem dL_law_349 : decode cL_law 349 = .ok (.iaload, 1) := by decide +kernel
theorem dL_law_350 : decode cL_law 350 = .ok (.aload_n 0, 1) := by decide +kernel
theorem dL_law_351 : decode cL_law 351 = .ok (.iload_n 3, 1) := by decide +kernel
theorem dL_law_352 : decode cL_law 352 = .ok (.iconst 3, 1) := by decide +kernel
theorem dL_law_353 : decode cL_law 353 = .ok (.iadd, 1) := by decide +kernel
theorem dL_law_354 : decode cL_law 354 = .ok (.iaload, 1) := by decide +kernel
theorem dL_law_355 : decode cL_law 355 = .ok (.aload_n 0, 1) := by decide +kernel
theorem dL_law_356 : decode cL_law 356 = .ok (.iload_n 3, 1) := by decide +kernel
theorem dL_law_357 : decode cL_law 357 = .ok (.iconst 4, 1) := by decide +kernel
theorem dL_law_358 : decode cL_law 358 = .ok (.iadd, 1) := by decide +kernel
theorem dL_law_359 : decode cL_law 359 = .ok (.iaload, 1) := by decide +kernel
theorem dL_law_360 : decode cL_law 360 = .ok (.aload_n 0, 1) := by decide +kernel
theorem dL_law_361 : decode cL_law 361 = .ok (.iload_n 3, 1) := by decide +kernel
theorem dL_law_362 : decode cL_law 362 = .ok (.iconst 5, 1) := by decide +kernel
theorem dL_law_363 : decode cL_law 363 = .ok (.iadd, 1) := by decide +kernel
theorem dL_law_364 : decode cL_law 364 = .ok (.iaload, 1) := by decide +kernel
theorem dL_law_365 : decode cL_law 365 = .ok (.invokevirtual 38, 3) := by decide +kernel
theorem dL_law_368 : decode cL_law 368 = .ok (.aload_n 2, 1) := by decide +kernel
theorem dL_law_369 : decode cL_law 369 = .ok (.aload_n 0, 1) := by decide +kernel
theorem dL_law_370 : decode cL_law 370 = .ok (.iload_n 3, 1) := by decide +kernel
theorem dL_law_371 : decode cL_law 371 = .ok (.iconst 1, 1) := by decide +kernel
theorem dL_law_372 : decode cL_law 372 = .ok (.iadd, 1) := by decide +kernel
theorem dL_law_373 : decode cL_law 373 = .ok (.iaload, 1) := by decide +kernel
theorem dL_law_374 : decode cL_law 374 = .ok (.aload_n 0, 1) := by decide +kernel
theorem dL_law_375 : decode cL_law 375 = .ok (.iload_n 3, 1) := by decide +kernel
theorem dL_law_376 : decode cL_law 376 = .ok (.iconst 2, 1) := by decide +kernel
theorem dL_law_377 : decode cL_law 377 = .ok (.iadd, 1) := by decide +kernel
theorem dL_law_378 : decode cL_law 378 = .ok (.iaload, 1) := by decide +kernel
theorem dL_law_379 : decode cL_law 379 = .ok (.aload_n 0, 1) := by decide +kernel
theorem dL_law_380 : decode cL_law 380 = .ok (.iload_n 3, 1) := by decide +kernel
theorem dL_law_381 : decode cL_law 381 = .ok (.iconst 3, 1) := by decide +kernel
theorem dL_law_382 : decode cL_law 382 = .ok (.iadd, 1) := by decide +kernel
theorem dL_law_383 : decode cL_law 383 = .ok (.iaload, 1) := by decide +kernel
theorem dL_law_384 : decode cL_law 384 = .ok (.aload_n 0, 1) := by decide +kernel
theorem dL_law_385 : decode cL_law 385 = .ok (.iload_n 3, 1) := by decide +kernel
theorem dL_law_386 : decode cL_law 386 = .ok (.iconst 4, 1) := by decide +kernel
theorem dL_law_387 : decode cL_law 387 = .ok (.iadd, 1) := by decide +kernel
theorem dL_law_388 : decode cL_law 388 = .ok (.iaload, 1) := by decide +kernel
theorem dL_law_389 : decode cL_law 389 = .ok (.aload_n 0, 1) := by decide +kernel
theorem dL_law_390 : decode cL_law 390 = .ok (.iload_n 3, 1) := by decide +kernel
theorem dL_law_391 : decode cL_law 391 = .ok (.iconst 5, 1) := by decide +kernel
theorem dL_law_392 : decode cL_law 392 = .ok (.iadd, 1) := by decide +kernel
theorem dL_law_393 : decode cL_law 393 = .ok (.iaload, 1) := by decide +kernel
theorem dL_law_394 : decode cL_law 394 = .ok (.invokevirtual 42, 3) := by decide +kernel
theorem dL_law_397 : decode cL_law 397 = .ok (.lcmp, 1) := by decide +kernel
theorem dL_law_398 : decode cL_law 398 = .ok (.ifCond .eq 456, 3) := by decide +kernel
theorem dL_law_401 : decode cL_law 401 = .ok (.iconst 0, 1) := by decide +kernel
theorem dL_law_402 : decode cL_law 402 = .ok (.ireturn, 1) := by decide +kernel
theorem dL_law_403 : decode cL_law 403 = .ok (.aload_n 1, 1) := by decide +kernel
theorem dL_law_404 : decode cL_law 404 = .ok (.aload_n 0, 1) := by decide +kernel
theorem dL_law_405 : decode cL_law 405 = .ok (.iload_n 3, 1) := by decide +kernel
theorem dL_law_406 : decode cL_law 406 = .ok (.iconst 1, 1) := by decide +kernel
theorem dL_law_407 : decode cL_law 407 = .ok (.iadd, 1) := by decide +kernel
theorem dL_law_408 : decode cL_law 408 = .ok (.iaload, 1) := by decide +kernel
theorem dL_law_409 : decode cL_law 409 = .ok (.invokevirtual 43, 3) := by decide +kernel
theorem dL_law_412 : decode cL_law 412 = .ok (.aload_n 2, 1) := by decide +kernel
theorem dL_law_413 : decode cL_law 413 = .ok (.aload_n 0, 1) := by decide +kernel
theorem dL_law_414 : decode cL_law 414 = .ok (.iload_n 3, 1) := by decide +kernel
theorem dL_law_415 : decode cL_law 415 = .ok (.iconst 1, 1) := by decide +kernel
theorem dL_law_416 : decode cL_law 416 = .ok (.iadd, 1) := by decide +kernel
theorem dL_law_417 : decode cL_law 417 = .ok (.iaload, 1) := by decide +kernel
theorem dL_law_418 : decode cL_law 418 = .ok (.invokevirtual 46, 3) := by decide +kernel
theorem dL_law_421 : decode cL_law 421 = .ok (.if_icmp .eq 433, 3) := by decide +kernel
theorem dL_law_424 : decode cL_law 424 = .ok (.iconst 0, 1) := by decide +kernel
theorem dL_law_425 : decode cL_law 425 = .ok (.ireturn, 1) := by decide +kernel
theorem dL_law_426 : decode cL_law 426 = .ok (.aload_n 1, 1) := by decide +kernel
theorem dL_law_427 : decode cL_law 427 = .ok (.aload_n 0, 1) := by decide +kernel
theorem dL_law_428 : decode cL_law 428 = .ok (.iload_n 3, 1) := by decide +kernel
theorem dL_law_429 : decode cL_law 429 = .ok (.iconst 1, 1) := by decide +kernel
theorem dL_law_430 : decode cL_law 430 = .ok (.iadd, 1) := by decide +kernel
theorem dL_law_431 : decode cL_law 431 = .ok (.iaload, 1) := by decide +kernel
theorem dL_law_432 : decode cL_law 432 = .ok (.invokevirtual 47, 3) := by decide +kernel
theorem dL_law_435 : decode cL_law 435 = .ok (.aload_n 2, 1) := by decide +kernel
theorem dL_law_436 : decode cL_law 436 = .ok (.aload_n 0, 1) := by decide +kernel
theorem dL_law_437 : decode cL_law 437 = .ok (.iload_n 3, 1) := by decide +kernel
theorem dL_law_438 : decode cL_law 438 = .ok (.iconst 1, 1) := by decide +kernel
theorem dL_law_439 : decode cL_law 439 = .ok (.iadd, 1) := by decide +kernel
theorem dL_law_440 : decode cL_law 440 = .ok (.iaload, 1) := by decide +kernel
theorem dL_law_441 : decode cL_law 441 = .ok (.invokevirtual 50, 3) := by decide +kernel
theorem dL_law_444 : decode cL_law 444 = .ok (.if_icmp .eq 410, 3) := by decide +kernel
theorem dL_law_447 : decode cL_law 447 = .ok (.iconst 0, 1) := by decide +kernel
theorem dL_law_448 : decode cL_law 448 = .ok (.ireturn, 1) := by decide +kernel
theorem dL_law_449 : decode cL_law 449 = .ok (.aload_n 1, 1) := by decide +kernel
theorem dL_law_450 : decode cL_law 450 = .ok (.aload_n 0, 1) := by decide +kernel
theorem dL_law_451 : decode cL_law 451 = .ok (.iload_n 3, 1) := by decide +kernel
theorem dL_law_452 : decode cL_law 452 = .ok (.iconst 1, 1) := by decide +kernel
theorem dL_law_453 : decode cL_law 453 = .ok (.iadd, 1) := by decide +kernel
theorem dL_law_454 : decode cL_law 454 = .ok (.iaload, 1) := by decide +kernel
theorem dL_law_455 : decode cL_law 455 = .ok (.aload_n 0, 1) := by decide +kernel
theorem dL_law_456 : decode cL_law 456 = .ok (.iload_n 3, 1) := by decide +kernel
theorem dL_law_457 : decode cL_law 457 = .ok (.iconst 2, 1) := by decide +kernel
theorem dL_law_458 : decode cL_law 458 = .ok (.iadd, 1) := by decide +kernel
theorem dL_law_459 : decode cL_law 459 = .ok (.iaload, 1) := by decide +kernel
theorem dL_law_460 : decode cL_law 460 = .ok (.ifCond .eq 7, 3) := by decide +kernel
theorem dL_law_463 : decode cL_law 463 = .ok (.iconst 1, 1) := by decide +kernel
theorem dL_law_464 : decode cL_law 464 = .ok (.goto 4, 3) := by decide +kernel
theorem dL_law_467 : decode cL_law 467 = .ok (.iconst 0, 1) := by decide +kernel
theorem dL_law_468 : decode cL_law 468 = .ok (.invokevirtual 51, 3) := by decide +kernel
theorem dL_law_471 : decode cL_law 471 = .ok (.aload_n 2, 1) := by decide +kernel
theorem dL_law_472 : decode cL_law 472 = .ok (.aload_n 0, 1) := by decide +kernel
theorem dL_law_473 : decode cL_law 473 = .ok (.iload_n 3, 1) := by decide +kernel
theorem dL_law_474 : decode cL_law 474 = .ok (.iconst 1, 1) := by decide +kernel
theorem dL_law_475 : decode cL_law 475 = .ok (.iadd, 1) := by decide +kernel
theorem dL_law_476 : decode cL_law 476 = .ok (.iaload, 1) := by decide +kernel
theorem dL_law_477 : decode cL_law 477 = .ok (.aload_n 0, 1) := by decide +kernel
theorem dL_law_478 : decode cL_law 478 = .ok (.iload_n 3, 1) := by decide +kernel
theorem dL_law_479 : decode cL_law 479 = .ok (.iconst 2, 1) := by decide +kernel
theorem dL_law_480 : decode cL_law 480 = .ok (.iadd, 1) := by decide +kernel
theorem dL_law_481 : decode cL_law 481 = .ok (.iaload, 1) := by decide +kernel
theorem dL_law_482 : decode cL_law 482 = .ok (.ifCond .eq 7, 3) := by decide +kernel
theorem dL_law_485 : decode cL_law 485 = .ok (.iconst 1, 1) := by decide +kernel
theorem dL_law_486 : decode cL_law 486 = .ok (.goto 4, 3) := by decide +kernel
theorem dL_law_489 : decode cL_law 489 = .ok (.iconst 0, 1) := by decide +kernel
theorem dL_law_490 : decode cL_law 490 = .ok (.invokevirtual 55, 3) := by decide +kernel
theorem dL_law_493 : decode cL_law 493 = .ok (.if_icmp .eq 361, 3) := by decide +kernel
theorem dL_law_496 : decode cL_law 496 = .ok (.iconst 0, 1) := by decide +kernel
theorem dL_law_497 : decode cL_law 497 = .ok (.ireturn, 1) := by decide +kernel
theorem dL_law_498 : decode cL_law 498 = .ok (.aload_n 1, 1) := by decide +kernel
theorem dL_law_499 : decode cL_law 499 = .ok (.aload_n 0, 1) := by decide +kernel
theorem dL_law_500 : decode cL_law 500 = .ok (.iload_n 3, 1) := by decide +kernel
theorem dL_law_501 : decode cL_law 501 = .ok (.iconst 1, 1) := by decide +kernel
theorem dL_law_502 : decode cL_law 502 = .ok (.iadd, 1) := by decide +kernel
theorem dL_law_503 : decode cL_law 503 = .ok (.iaload, 1) := by decide +kernel
theorem dL_law_504 : decode cL_law 504 = .ok (.aload_n 0, 1) := by decide +kernel
theorem dL_law_505 : decode cL_law 505 = .ok (.iload_n 3, 1) := by decide +kernel
theorem dL_law_506 : decode cL_law 506 = .ok (.iconst 2, 1) := by decide +kernel
theorem dL_law_507 : decode cL_law 507 = .ok (.iadd, 1) := by decide +kernel
theorem dL_law_508 : decode cL_law 508 = .ok (.iaload, 1) := by decide +kernel
theorem dL_law_509 : decode cL_law 509 = .ok (.aload_n 0, 1) := by decide +kernel
theorem dL_law_510 : decode cL_law 510 = .ok (.iload_n 3, 1) := by decide +kernel
theorem dL_law_511 : decode cL_law 511 = .ok (.iconst 3, 1) := by decide +kernel
theorem dL_law_512 : decode cL_law 512 = .ok (.iadd, 1) := by decide +kernel
theorem dL_law_513 : decode cL_law 513 = .ok (.iaload, 1) := by decide +kernel
theorem dL_law_514 : decode cL_law 514 = .ok (.invokevirtual 56, 3) := by decide +kernel
theorem dL_law_517 : decode cL_law 517 = .ok (.aload_n 2, 1) := by decide +kernel
theorem dL_law_518 : decode cL_law 518 = .ok (.aload_n 0, 1) := by decide +kernel
theorem dL_law_519 : decode cL_law 519 = .ok (.iload_n 3, 1) := by decide +kernel
theorem dL_law_520 : decode cL_law 520 = .ok (.iconst 1, 1) := by decide +kernel
theorem dL_law_521 : decode cL_law 521 = .ok (.iadd, 1) := by decide +kernel
theorem dL_law_522 : decode cL_law 522 = .ok (.iaload, 1) := by decide +kernel
theorem dL_law_523 : decode cL_law 523 = .ok (.aload_n 0, 1) := by decide +kernel
theorem dL_law_524 : decode cL_law 524 = .ok (.iload_n 3, 1) := by decide +kernel
theorem dL_law_525 : decode cL_law 525 = .ok (.iconst 2, 1) := by decide +kernel
theorem dL_law_526 : decode cL_law 526 = .ok (.iadd, 1) := by decide +kernel
theorem dL_law_527 : decode cL_law 527 = .ok (.iaload, 1) := by decide +kernel
theorem dL_law_528 : decode cL_law 528 = .ok (.aload_n 0, 1) := by decide +kernel
theorem dL_law_529 : decode cL_law 529 = .ok (.iload_n 3, 1) := by decide +kernel
theorem dL_law_530 : decode cL_law 530 = .ok (.iconst 3, 1) := by decide +kernel
theorem dL_law_531 : decode cL_law 531 = .ok (.iadd, 1) := by decide +kernel
theorem dL_law_532 : decode cL_law 532 = .ok (.iaload, 1) := by decide +kernel
theorem dL_law_533 : decode cL_law 533 = .ok (.invokevirtual 60, 3) := by decide +kernel
theorem dL_law_536 : decode cL_law 536 = .ok (.if_icmp .eq 318, 3) := by decide +kernel
theorem dL_law_539 : decode cL_law 539 = .ok (.iconst 0, 1) := by decide +kernel
theorem dL_law_540 : decode cL_law 540 = .ok (.ireturn, 1) := by decide +kernel
theorem dL_law_541 : decode cL_law 541 = .ok (.aload_n 1, 1) := by decide +kernel
theorem dL_law_542 : decode cL_law 542 = .ok (.aload_n 0, 1) := by decide +kernel
theorem dL_law_543 : decode cL_law 543 = .ok (.iload_n 3, 1) := by decide +kernel
theorem dL_law_544 : decode cL_law 544 = .ok (.iconst 1, 1) := by decide +kernel
theorem dL_law_545 : decode cL_law 545 = .ok (.iadd, 1) := by decide +kernel
theorem dL_law_546 : decode cL_law 546 = .ok (.iaload, 1) := by decide +kernel
theorem dL_law_547 : decode cL_law 547 = .ok (.aload_n 0, 1) := by decide +kernel
theorem dL_law_548 : decode cL_law 548 = .ok (.iload_n 3, 1) := by decide +kernel
theorem dL_law_549 : decode cL_law 549 = .ok (.iconst 2, 1) := by decide +kernel
theorem dL_law_550 : decode cL_law 550 = .ok (.iadd, 1) := by decide +kernel
theorem dL_law_551 : decode cL_law 551 = .ok (.iaload, 1) := by decide +kernel
theorem dL_law_552 : decode cL_law 552 = .ok (.invokevirtual 61, 3) := by decide +kernel
theorem dL_law_555 : decode cL_law 555 = .ok (.aload_n 2, 1) := by decide +kernel
theorem dL_law_556 : decode cL_law 556 = .ok (.aload_n 0, 1) := by decide +kernel
theorem dL_law_557 : decode cL_law 557 = .ok (.iload_n 3, 1) := by decide +kernel
theorem dL_law_558 : decode cL_law 558 = .ok (.iconst 1, 1) := by decide +kernel
theorem dL_law_559 : decode cL_law 559 = .ok (.iadd, 1) := by decide +kernel
theorem dL_law_560 : decode cL_law 560 = .ok (.iaload, 1) := by decide +kernel
theorem dL_law_561 : decode cL_law 561 = .ok (.aload_n 0, 1) := by decide +kernel
theorem dL_law_562 : decode cL_law 562 = .ok (.iload_n 3, 1) := by decide +kernel
theorem dL_law_563 : decode cL_law 563 = .ok (.iconst 2, 1) := by decide +kernel
theorem dL_law_564 : decode cL_law 564 = .ok (.iadd, 1) := by decide +kernel
theorem dL_law_565 : decode cL_law 565 = .ok (.iaload, 1) := by decide +kernel
theorem dL_law_566 : decode cL_law 566 = .ok (.invokevirtual 65, 3) := by decide +kernel
theorem dL_law_569 : decode cL_law 569 = .ok (.lcmp, 1) := by decide +kernel
theorem dL_law_570 : decode cL_law 570 = .ok (.ifCond .eq 284, 3) := by decide +kernel
theorem dL_law_573 : decode cL_law 573 = .ok (.iconst 0, 1) := by decide +kernel
theorem dL_law_574 : decode cL_law 574 = .ok (.ireturn, 1) := by decide +kernel
theorem dL_law_575 : decode cL_law 575 = .ok (.aload_n 1, 1) := by decide +kernel
theorem dL_law_576 : decode cL_law 576 = .ok (.aload_n 0, 1) := by decide +kernel
theorem dL_law_577 : decode cL_law 577 = .ok (.iload_n 3, 1) := by decide +kernel
theorem dL_law_578 : decode cL_law 578 = .ok (.iconst 1, 1) := by decide +kernel
theorem dL_law_579 : decode cL_law 579 = .ok (.iadd, 1) := by decide +kernel
theorem dL_law_580 : decode cL_law 580 = .ok (.iaload, 1) := by decide +kernel
theorem dL_law_581 : decode cL_law 581 = .ok (.aload_n 0, 1) := by decide +kernel
theorem dL_law_582 : decode cL_law 582 = .ok (.iload_n 3, 1) := by decide +kernel
theorem dL_law_583 : decode cL_law 583 = .ok (.iconst 2, 1) := by decide +kernel
theorem dL_law_584 : decode cL_law 584 = .ok (.iadd, 1) := by decide +kernel
theorem dL_law_585 : decode cL_law 585 = .ok (.iaload, 1) := by decide +kernel
theorem dL_law_586 : decode cL_law 586 = .ok (.aload_n 0, 1) := by decide +kernel
theorem dL_law_587 : decode cL_law 587 = .ok (.iload_n 3, 1) := by decide +kernel
theorem dL_law_588 : decode cL_law 588 = .ok (.iconst 3, 1) := by decide +kernel
theorem dL_law_589 : decode cL_law 589 = .ok (.iadd, 1) := by decide +kernel
theorem dL_law_590 : decode cL_law 590 = .ok (.iaload, 1) := by decide +kernel
theorem dL_law_591 : decode cL_law 591 = .ok (.invokevirtual 66, 3) := by decide +kernel
theorem dL_law_594 : decode cL_law 594 = .ok (.aload_n 2, 1) := by decide +kernel
theorem dL_law_595 : decode cL_law 595 = .ok (.aload_n 0, 1) := by decide +kernel
theorem dL_law_596 : decode cL_law 596 = .ok (.iload_n 3, 1) := by decide +kernel
theorem dL_law_597 : decode cL_law 597 = .ok (.iconst 1, 1) := by decide +kernel
theorem dL_law_598 : decode cL_law 598 = .ok (.iadd, 1) := by decide +kernel
theorem dL_law_599 : decode cL_law 599 = .ok (.iaload, 1) := by decide +kernel
theorem dL_law_600 : decode cL_law 600 = .ok (.aload_n 0, 1) := by decide +kernel
theorem dL_law_601 : decode cL_law 601 = .ok (.iload_n 3, 1) := by decide +kernel
theorem dL_law_602 : decode cL_law 602 = .ok (.iconst 2, 1) := by decide +kernel
theorem dL_law_603 : decode cL_law 603 = .ok (.iadd, 1) := by decide +kernel
theorem dL_law_604 : decode cL_law 604 = .ok (.iaload, 1) := by decide +kernel
theorem dL_law_605 : decode cL_law 605 = .ok (.aload_n 0, 1) := by decide +kernel
theorem dL_law_606 : decode cL_law 606 = .ok (.iload_n 3, 1) := by decide +kernel
theorem dL_law_607 : decode cL_law 607 = .ok (.iconst 3, 1) := by decide +kernel
theorem dL_law_608 : decode cL_law 608 = .ok (.iadd, 1) := by decide +kernel
theorem dL_law_609 : decode cL_law 609 = .ok (.iaload, 1) := by decide +kernel
theorem dL_law_610 : decode cL_law 610 = .ok (.invokevirtual 70, 3) := by decide +kernel
theorem dL_law_613 : decode cL_law 613 = .ok (.lcmp, 1) := by decide +kernel
theorem dL_law_614 : decode cL_law 614 = .ok (.ifCond .eq 240, 3) := by decide +kernel
theorem dL_law_617 : decode cL_law 617 = .ok (.iconst 0, 1) := by decide +kernel
theorem dL_law_618 : decode cL_law 618 = .ok (.ireturn, 1) := by decide +kernel
theorem dL_law_619 : decode cL_law 619 = .ok (.aload_n 1, 1) := by decide +kernel
theorem dL_law_620 : decode cL_law 620 = .ok (.aload_n 0, 1) := by decide +kernel
theorem dL_law_621 : decode cL_law 621 = .ok (.iload_n 3, 1) := by decide +kernel
theorem dL_law_622 : decode cL_law 622 = .ok (.iconst 1, 1) := by decide +kernel
theorem dL_law_623 : decode cL_law 623 = .ok (.iadd, 1) := by decide +kernel
theorem dL_law_624 : decode cL_law 624 = .ok (.iaload, 1) := by decide +kernel
theorem dL_law_625 : decode cL_law 625 = .ok (.invokevirtual 71, 3) := by decide +kernel
theorem dL_law_628 : decode cL_law 628 = .ok (.aload_n 2, 1) := by decide +kernel
theorem dL_law_629 : decode cL_law 629 = .ok (.aload_n 0, 1) := by decide +kernel
theorem dL_law_630 : decode cL_law 630 = .ok (.iload_n 3, 1) := by decide +kernel
theorem dL_law_631 : decode cL_law 631 = .ok (.iconst 1, 1) := by decide +kernel
theorem dL_law_632 : decode cL_law 632 = .ok (.iadd, 1) := by decide +kernel
theorem dL_law_633 : decode cL_law 633 = .ok (.iaload, 1) := by decide +kernel
theorem dL_law_634 : decode cL_law 634 = .ok (.invokevirtual 74, 3) := by decide +kernel
theorem dL_law_637 : decode cL_law 637 = .ok (.if_icmp .eq 217, 3) := by decide +kernel
theorem dL_law_640 : decode cL_law 640 = .ok (.iconst 0, 1) := by decide +kernel
theorem dL_law_641 : decode cL_law 641 = .ok (.ireturn, 1) := by decide +kernel
theorem dL_law_642 : decode cL_law 642 = .ok (.aload_n 1, 1) := by decide +kernel
theorem dL_law_643 : decode cL_law 643 = .ok (.aload_n 0, 1) := by decide +kernel
theorem dL_law_644 : decode cL_law 644 = .ok (.iload_n 3, 1) := by decide +kernel
theorem dL_law_645 : decode cL_law 645 = .ok (.iconst 1, 1) := by decide +kernel
theorem dL_law_646 : decode cL_law 646 = .ok (.iadd, 1) := by decide +kernel
theorem dL_law_647 : decode cL_law 647 = .ok (.iaload, 1) := by decide +kernel
theorem dL_law_648 : decode cL_law 648 = .ok (.invokevirtual 75, 3) := by decide +kernel
theorem dL_law_651 : decode cL_law 651 = .ok (.aload_n 2, 1) := by decide +kernel
theorem dL_law_652 : decode cL_law 652 = .ok (.aload_n 0, 1) := by decide +kernel
theorem dL_law_653 : decode cL_law 653 = .ok (.iload_n 3, 1) := by decide +kernel
theorem dL_law_654 : decode cL_law 654 = .ok (.iconst 1, 1) := by decide +kernel
theorem dL_law_655 : decode cL_law 655 = .ok (.iadd, 1) := by decide +kernel
theorem dL_law_656 : decode cL_law 656 = .ok (.iaload, 1) := by decide +kernel
theorem dL_law_657 : decode cL_law 657 = .ok (.invokevirtual 78, 3) := by decide +kernel
theorem dL_law_660 : decode cL_law 660 = .ok (.if_icmp .eq 194, 3) := by decide +kernel
theorem dL_law_663 : decode cL_law 663 = .ok (.iconst 0, 1) := by decide +kernel
theorem dL_law_664 : decode cL_law 664 = .ok (.ireturn, 1) := by decide +kernel
theorem dL_law_665 : decode cL_law 665 = .ok (.aload_n 1, 1) := by decide +kernel
theorem dL_law_666 : decode cL_law 666 = .ok (.aload_n 0, 1) := by decide +kernel
theorem dL_law_667 : decode cL_law 667 = .ok (.iload_n 3, 1) := by decide +kernel
theorem dL_law_668 : decode cL_law 668 = .ok (.iconst 1, 1) := by decide +kernel
theorem dL_law_669 : decode cL_law 669 = .ok (.iadd, 1) := by decide +kernel
theorem dL_law_670 : decode cL_law 670 = .ok (.iaload, 1) := by decide +kernel
theorem dL_law_671 : decode cL_law 671 = .ok (.aload_n 0, 1) := by decide +kernel
theorem dL_law_672 : decode cL_law 672 = .ok (.iload_n 3, 1) := by decide +kernel
theorem dL_law_673 : decode cL_law 673 = .ok (.iconst 2, 1) := by decide +kernel
theorem dL_law_674 : decode cL_law 674 = .ok (.iadd, 1) := by decide +kernel
theorem dL_law_675 : decode cL_law 675 = .ok (.iaload, 1) := by decide +kernel
theorem dL_law_676 : decode cL_law 676 = .ok (.invokevirtual 79, 3) := by decide +kernel
theorem dL_law_679 : decode cL_law 679 = .ok (.aload_n 2, 1) := by decide +kernel
theorem dL_law_680 : decode cL_law 680 = .ok (.aload_n 0, 1) := by decide +kernel
theorem dL_law_681 : decode cL_law 681 = .ok (.iload_n 3, 1) := by decide +kernel
theorem dL_law_682 : decode cL_law 682 = .ok (.iconst 1, 1) := by decide +kernel
theorem dL_law_683 : decode cL_law 683 = .ok (.iadd, 1) := by decide +kernel
theorem dL_law_684 : decode cL_law 684 = .ok (.iaload, 1) := by decide +kernel
theorem dL_law_685 : decode cL_law 685 = .ok (.aload_n 0, 1) := by decide +kernel
theorem dL_law_686 : decode cL_law 686 = .ok (.iload_n 3, 1) := by decide +kernel
theorem dL_law_687 : decode cL_law 687 = .ok (.iconst 2, 1) := by decide +kernel
theorem dL_law_688 : decode cL_law 688 = .ok (.iadd, 1) := by decide +kernel
theorem dL_law_689 : decode cL_law 689 = .ok (.iaload, 1) := by decide +kernel
theorem dL_law_690 : decode cL_law 690 = .ok (.invokevirtual 83, 3) := by decide +kernel
theorem dL_law_693 : decode cL_law 693 = .ok (.if_icmp .eq 161, 3) := by decide +kernel
theorem dL_law_696 : decode cL_law 696 = .ok (.iconst 0, 1) := by decide +kernel
theorem dL_law_697 : decode cL_law 697 = .ok (.ireturn, 1) := by decide +kernel
theorem dL_law_698 : decode cL_law 698 = .ok (.aload_n 1, 1) := by decide +kernel
theorem dL_law_699 : decode cL_law 699 = .ok (.aload_n 0, 1) := by decide +kernel
theorem dL_law_700 : decode cL_law 700 = .ok (.iload_n 3, 1) := by decide +kernel
theorem dL_law_701 : decode cL_law 701 = .ok (.iconst 1, 1) := by decide +kernel
theorem dL_law_702 : decode cL_law 702 = .ok (.iadd, 1) := by decide +kernel
theorem dL_law_703 : decode cL_law 703 = .ok (.iaload, 1) := by decide +kernel
theorem dL_law_704 : decode cL_law 704 = .ok (.invokevirtual 84, 3) := by decide +kernel
theorem dL_law_707 : decode cL_law 707 = .ok (.aload_n 2, 1) := by decide +kernel
theorem dL_law_708 : decode cL_law 708 = .ok (.aload_n 0, 1) := by decide +kernel
theorem dL_law_709 : decode cL_law 709 = .ok (.iload_n 3, 1) := by decide +kernel
theorem dL_law_710 : decode cL_law 710 = .ok (.iconst 1, 1) := by decide +kernel
theorem dL_law_711 : decode cL_law 711 = .ok (.iadd, 1) := by decide +kernel
theorem dL_law_712 : decode cL_law 712 = .ok (.iaload, 1) := by decide +kernel
theorem dL_law_713 : decode cL_law 713 = .ok (.invokevirtual 87, 3) := by decide +kernel
theorem dL_law_716 : decode cL_law 716 = .ok (.if_icmp .eq 138, 3) := by decide +kernel
theorem dL_law_719 : decode cL_law 719 = .ok (.iconst 0, 1) := by decide +kernel
theorem dL_law_720 : decode cL_law 720 = .ok (.ireturn, 1) := by decide +kernel
theorem dL_law_721 : decode cL_law 721 = .ok (.aload_n 1, 1) := by decide +kernel
theorem dL_law_722 : decode cL_law 722 = .ok (.aload_n 0, 1) := by decide +kernel
theorem dL_law_723 : decode cL_law 723 = .ok (.iload_n 3, 1) := by decide +kernel
theorem dL_law_724 : decode cL_law 724 = .ok (.iconst 1, 1) := by decide +kernel
theorem dL_law_725 : decode cL_law 725 = .ok (.iadd, 1) := by decide +kernel
theorem dL_law_726 : decode cL_law 726 = .ok (.iaload, 1) := by decide +kernel
theorem dL_law_727 : decode cL_law 727 = .ok (.aload_n 0, 1) := by decide +kernel
theorem dL_law_728 : decode cL_law 728 = .ok (.iload_n 3, 1) := by decide +kernel
theorem dL_law_729 : decode cL_law 729 = .ok (.iconst 2, 1) := by decide +kernel
theorem dL_law_730 : decode cL_law 730 = .ok (.iadd, 1) := by decide +kernel
theorem dL_law_731 : decode cL_law 731 = .ok (.iaload, 1) := by decide +kernel
theorem dL_law_732 : decode cL_law 732 = .ok (.invokevirtual 88, 3) := by decide +kernel
theorem dL_law_735 : decode cL_law 735 = .ok (.aload_n 2, 1) := by decide +kernel
theorem dL_law_736 : decode cL_law 736 = .ok (.aload_n 0, 1) := by decide +kernel
theorem dL_law_737 : decode cL_law 737 = .ok (.iload_n 3, 1) := by decide +kernel
theorem dL_law_738 : decode cL_law 738 = .ok (.iconst 1, 1) := by decide +kernel
theorem dL_law_739 : decode cL_law 739 = .ok (.iadd, 1) := by decide +kernel
theorem dL_law_740 : decode cL_law 740 = .ok (.iaload, 1) := by decide +kernel
theorem dL_law_741 : decode cL_law 741 = .ok (.aload_n 0, 1) := by decide +kernel
theorem dL_law_742 : decode cL_law 742 = .ok (.iload_n 3, 1) := by decide +kernel
theorem dL_law_743 : decode cL_law 743 = .ok (.iconst 2, 1) := by decide +kernel
theorem dL_law_744 : decode cL_law 744 = .ok (.iadd, 1) := by decide +kernel
theorem dL_law_745 : decode cL_law 745 = .ok (.iaload, 1) := by decide +kernel
theorem dL_law_746 : decode cL_law 746 = .ok (.invokevirtual 91, 3) := by decide +kernel
theorem dL_law_749 : decode cL_law 749 = .ok (.lcmp, 1) := by decide +kernel
theorem dL_law_750 : decode cL_law 750 = .ok (.ifCond .eq 104, 3) := by decide +kernel
theorem dL_law_753 : decode cL_law 753 = .ok (.iconst 0, 1) := by decide +kernel
theorem dL_law_754 : decode cL_law 754 = .ok (.ireturn, 1) := by decide +kernel
theorem dL_law_755 : decode cL_law 755 = .ok (.aload_n 1, 1) := by decide +kernel
theorem dL_law_756 : decode cL_law 756 = .ok (.aload_n 0, 1) := by decide +kernel
theorem dL_law_757 : decode cL_law 757 = .ok (.iload_n 3, 1) := by decide +kernel
theorem dL_law_758 : decode cL_law 758 = .ok (.iconst 1, 1) := by decide +kernel
theorem dL_law_759 : decode cL_law 759 = .ok (.iadd, 1) := by decide +kernel
theorem dL_law_760 : decode cL_law 760 = .ok (.iaload, 1) := by decide +kernel
theorem dL_law_761 : decode cL_law 761 = .ok (.aload_n 0, 1) := by decide +kernel
theorem dL_law_762 : decode cL_law 762 = .ok (.iload_n 3, 1) := by decide +kernel
theorem dL_law_763 : decode cL_law 763 = .ok (.iconst 2, 1) := by decide +kernel
theorem dL_law_764 : decode cL_law 764 = .ok (.iadd, 1) := by decide +kernel
theorem dL_law_765 : decode cL_law 765 = .ok (.iaload, 1) := by decide +kernel
theorem dL_law_766 : decode cL_law 766 = .ok (.aload_n 0, 1) := by decide +kernel
theorem dL_law_767 : decode cL_law 767 = .ok (.iload_n 3, 1) := by decide +kernel
theorem dL_law_768 : decode cL_law 768 = .ok (.iconst 3, 1) := by decide +kernel
theorem dL_law_769 : decode cL_law 769 = .ok (.iadd, 1) := by decide +kernel
theorem dL_law_770 : decode cL_law 770 = .ok (.iaload, 1) := by decide +kernel
theorem dL_law_771 : decode cL_law 771 = .ok (.invokevirtual 92, 3) := by decide +kernel
theorem dL_law_774 : decode cL_law 774 = .ok (.aload_n 2, 1) := by decide +kernel
theorem dL_law_775 : decode cL_law 775 = .ok (.aload_n 0, 1) := by decide +kernel
theorem dL_law_776 : decode cL_law 776 = .ok (.iload_n 3, 1) := by decide +kernel
theorem dL_law_777 : decode cL_law 777 = .ok (.iconst 1, 1) := by decide +kernel
theorem dL_law_778 : decode cL_law 778 = .ok (.iadd, 1) := by decide +kernel
theorem dL_law_779 : decode cL_law 779 = .ok (.iaload, 1) := by decide +kernel
theorem dL_law_780 : decode cL_law 780 = .ok (.aload_n 0, 1) := by decide +kernel
theorem dL_law_781 : decode cL_law 781 = .ok (.iload_n 3, 1) := by decide +kernel
theorem dL_law_782 : decode cL_law 782 = .ok (.iconst 2, 1) := by decide +kernel
theorem dL_law_783 : decode cL_law 783 = .ok (.iadd, 1) := by decide +kernel
theorem dL_law_784 : decode cL_law 784 = .ok (.iaload, 1) := by decide +kernel
theorem dL_law_785 : decode cL_law 785 = .ok (.aload_n 0, 1) := by decide +kernel
theorem dL_law_786 : decode cL_law 786 = .ok (.iload_n 3, 1) := by decide +kernel
theorem dL_law_787 : decode cL_law 787 = .ok (.iconst 3, 1) := by decide +kernel
theorem dL_law_788 : decode cL_law 788 = .ok (.iadd, 1) := by decide +kernel
theorem dL_law_789 : decode cL_law 789 = .ok (.iaload, 1) := by decide +kernel
theorem dL_law_790 : decode cL_law 790 = .ok (.invokevirtual 95, 3) := by decide +kernel
theorem dL_law_793 : decode cL_law 793 = .ok (.if_icmp .eq 61, 3) := by decide +kernel
theorem dL_law_796 : decode cL_law 796 = .ok (.iconst 0, 1) := by decide +kernel
theorem dL_law_797 : decode cL_law 797 = .ok (.ireturn, 1) := by decide +kernel
theorem dL_law_798 : decode cL_law 798 = .ok (.aload_n 1, 1) := by decide +kernel
theorem dL_law_799 : decode cL_law 799 = .ok (.aload_n 0, 1) := by decide +kernel
theorem dL_law_800 : decode cL_law 800 = .ok (.iload_n 3, 1) := by decide +kernel
theorem dL_law_801 : decode cL_law 801 = .ok (.iconst 1, 1) := by decide +kernel
theorem dL_law_802 : decode cL_law 802 = .ok (.iadd, 1) := by decide +kernel
theorem dL_law_803 : decode cL_law 803 = .ok (.iaload, 1) := by decide +kernel
theorem dL_law_804 : decode cL_law 804 = .ok (.aload_n 0, 1) := by decide +kernel
theorem dL_law_805 : decode cL_law 805 = .ok (.iload_n 3, 1) := by decide +kernel
theorem dL_law_806 : decode cL_law 806 = .ok (.iconst 2, 1) := by decide +kernel
theorem dL_law_807 : decode cL_law 807 = .ok (.iadd, 1) := by decide +kernel
theorem dL_law_808 : decode cL_law 808 = .ok (.iaload, 1) := by decide +kernel
theorem dL_law_809 : decode cL_law 809 = .ok (.invokevirtual 96, 3) := by decide +kernel
theorem dL_law_812 : decode cL_law 812 = .ok (.aload_n 2, 1) := by decide +kernel
theorem dL_law_813 : decode cL_law 813 = .ok (.aload_n 0, 1) := by decide +kernel
theorem dL_law_814 : decode cL_law 814 = .ok (.iload_n 3, 1) := by decide +kernel
theorem dL_law_815 : decode cL_law 815 = .ok (.iconst 1, 1) := by decide +kernel
theorem dL_law_816 : decode cL_law 816 = .ok (.iadd, 1) := by decide +kernel
theorem dL_law_817 : decode cL_law 817 = .ok (.iaload, 1) := by decide +kernel
theorem dL_law_818 : decode cL_law 818 = .ok (.aload_n 0, 1) := by decide +kernel
theorem dL_law_819 : decode cL_law 819 = .ok (.iload_n 3, 1) := by decide +kernel
theorem dL_law_820 : decode cL_law 820 = .ok (.iconst 2, 1) := by decide +kernel
theorem dL_law_821 : decode cL_law 821 = .ok (.iadd, 1) := by decide +kernel
theorem dL_law_822 : decode cL_law 822 = .ok (.iaload, 1) := by decide +kernel
theorem dL_law_823 : decode cL_law 823 = .ok (.invokevirtual 99, 3) := by decide +kernel
theorem dL_law_826 : decode cL_law 826 = .ok (.if_icmp .eq 28, 3) := by decide +kernel
theorem dL_law_829 : decode cL_law 829 = .ok (.iconst 0, 1) := by decide +kernel
theorem dL_law_830 : decode cL_law 830 = .ok (.ireturn, 1) := by decide +kernel
theorem dL_law_831 : decode cL_law 831 = .ok (.aload_n 1, 1) := by decide +kernel
theorem dL_law_832 : decode cL_law 832 = .ok (.aload_n 0, 1) := by decide +kernel
theorem dL_law_833 : decode cL_law 833 = .ok (.iload_n 3, 1) := by decide +kernel
theorem dL_law_834 : decode cL_law 834 = .ok (.iconst 1, 1) := by decide +kernel
theorem dL_law_835 : decode cL_law 835 = .ok (.iadd, 1) := by decide +kernel
theorem dL_law_836 : decode cL_law 836 = .ok (.iaload, 1) := by decide +kernel
theorem dL_law_837 : decode cL_law 837 = .ok (.invokevirtual 100, 3) := by decide +kernel
theorem dL_law_840 : decode cL_law 840 = .ok (.aload_n 2, 1) := by decide +kernel
theorem dL_law_841 : decode cL_law 841 = .ok (.aload_n 0, 1) := by decide +kernel
theorem dL_law_842 : decode cL_law 842 = .ok (.iload_n 3, 1) := by decide +kernel
theorem dL_law_843 : decode cL_law 843 = .ok (.iconst 1, 1) := by decide +kernel
theorem dL_law_844 : decode cL_law 844 = .ok (.iadd, 1) := by decide +kernel
theorem dL_law_845 : decode cL_law 845 = .ok (.iaload, 1) := by decide +kernel
theorem dL_law_846 : decode cL_law 846 = .ok (.invokevirtual 103, 3) := by decide +kernel
theorem dL_law_849 : decode cL_law 849 = .ok (.if_icmp .eq 5, 3) := by decide +kernel
theorem dL_law_852 : decode cL_law 852 = .ok (.iconst 0, 1) := by decide +kernel
theorem dL_law_853 : decode cL_law 853 = .ok (.ireturn, 1) := by decide +kernel
theorem dL_law_854 : decode cL_law 854 = .ok (.iinc 3 6, 3) := by decide +kernel
theorem dL_law_857 : decode cL_law 857 = .ok (.goto (-839), 3) := by decide +kernel
theorem dL_law_860 : decode cL_law 860 = .ok (.iconst 1, 1) := by decide +kernel
theorem dL_law_861 : decode cL_law 861 = .ok (.ireturn, 1) := by decide +kernel
end
section
/-! The tables' words as a property of a state that calls keep; the world: cells by labels; rows of the kit over it. -/
def tb_k (w : Cond) : Bool := (w.onTables && w.keeps) || (match w with
  | .arrayClass _ => true
  | .fieldLinkNest _ _ _ _ _ _ => true
  | .methodLinkNest _ _ _ _ => true
  | .arrayOver (.object _) => true
  | .arrayOver (.array _) => true
  | _ => false)
/-- the words that calls keep -/
def lt : List Cond := lw_tbl.filter tb_k
theorem lt_in {w : Cond} (h : w ∈ lw_tbl) (hk : tb_k w = true) : w ∈ lt := List.mem_filter.mpr ⟨h, hk⟩
theorem tb_all : ∀ w ∈ lt, tb_k w = true := fun _ h => (List.mem_filter.mp h).2
def TB (U : State) : Prop := ∀ w ∈ lt, w.before #[] U = true
theorem tb_aoA {t : FieldType} {u U : State} (hvm : u.vm.Alike U.vm) (h : (Cond.arrayOver (.array t)).before #[] u = true) : (Cond.arrayOver (.array t)).before #[] U = true := by
  obtain ⟨comp, c, k, h1, h2, h3, h4, h5⟩ := arrayOverA_spec h
  obtain ⟨k', hk', he⟩ := hvm.2.2 _ _ h3
  have b1 := va_idx_bare U.vm comp
  have b2 := va_idx_bare u.vm comp
  have hb : u.vm.bare = U.vm.bare := by first | exact hvm.bare_eq | exact hvm.bare_eq.symm
  rw [hb] at b2
  have hi := b1.symm.trans (b2.trans h2)
  have hkind : k'.kind = .array comp (.array t) := by rw [he]; exact h4
  have f1 : U.vm.findClass (FieldType.array t).toString = some comp := by rw [hvm.findClass]; exact h1
  have f2 : U.vm.findClass ("[" ++ (FieldType.array t).toString) = some c := by rw [hvm.findClass]; exact h5
  unfold Cond.before Cond.holds
  simp only [Cond.value]
  rw [f1, Option.bind_some]
  refine (congrArg (fun o : Option Nat => (o.bind (fun c => (U.vm.classes[c]?).map fun (k : Class) => match k.kind with | .array _ ty => decide (ty = FieldType.array t) && decide (U.vm.findClass ("[" ++ (FieldType.array t).toString) = some c) | _ => false) == some true)) hi).trans ?_
  simp [hk', hkind, f2]
theorem TB.warm {s U : State} (hW : s.WarmedH U.vm) (h : TB s) : TB U := by
  intro w hw
  have hk := tb_all w hw
  have h0 := h w hw
  unfold tb_k at hk
  rcases (Bool.or_eq_true _ _).mp hk with h1 | h1
  · exact word_at hW (Or.inl h1) h0
  · split at h1
    · exact word_at hW (Or.inr ⟨_, rfl⟩) h0
    · exact va_Nw.warmF hW h0
    · exact va_Nw.warmM hW h0
    · exact va_AO.moved hW.alike h0
    · exact tb_aoA hW.alike h0
    · cases h1
theorem TB.use {s : State} (h : TB s) (args : Array Value) : ∀ w ∈ lt, w.before args s = true := by
  intro w hw
  have hk := tb_all w hw
  have h0 := h w hw
  unfold tb_k at hk
  rcases (Bool.or_eq_true _ _).mp hk with h1 | h1
  · exact word_at (State.WarmedH.refl s) (Or.inl h1) h0
  · split at h1
    · exact word_at (State.WarmedH.refl s) (Or.inr ⟨_, rfl⟩) h0
    · exact va_Nw.use rfl h0
    · exact va_Nw.use rfl h0
    · exact h0
    · exact h0
    · cases h1
theorem TB.of {s : State} {args : Array Value} (h : ∀ w ∈ lt, w.before args s = true) : TB s := by
  intro w hw
  have hk := tb_all w hw
  have h0 := h w hw
  unfold tb_k at hk
  rcases (Bool.or_eq_true _ _).mp hk with h1 | h1
  · exact word_at (State.WarmedH.refl s) (Or.inl h1) h0
  · split at h1
    · exact word_at (State.WarmedH.refl s) (Or.inr ⟨_, rfl⟩) h0
    · exact va_Nw.of rfl h0
    · exact va_Nw.of rfl h0
    · exact h0
    · exact h0
    · cases h1
def tyL (cy : Nat → ClassId) : List (ClassId × FieldType) := [(cy 0, .int), (cy 1, .long), (cy 2, .boolean), (cy 3, .array .int), (cy 4, .array .long), (cy 5, .object RX1), (cy 6, .object RX2), (cy 7, .object RX4)]
def KB (D : va_G) (cy : Nat → ClassId) (U : State) : Prop := TB U ∧ va_K D vwCl (tyL cy) U
theorem KB.warm {D : va_G} {cy : Nat → ClassId} {s U : State} (hW : s.WarmedH U.vm) (h : KB D cy s) : KB D cy U := ⟨h.1.warm hW, va_K.moved hW.alike h.2⟩
theorem KB.blind {D : va_G} {cy : Nat → ClassId} {U : State} {g : JFrame} {mk : MethodId} {a : Array Value} (h : KB D cy U) : KB D cy (U.calling g mk a) := KB.warm (s := U) (U := U.calling g mk a) (State.WarmedH.refl U) h
/-! the world -/
abbrev AA (z0 : Nat) : Nat → Prop := fun q => z0 ≤ q
def HW (D : va_G) (z0 : Nat) (ad : Nat → Nat) (V : Nat → Option va_E) (H : Heap) : Prop :=
  ∃ ws : va_W, va_P D vwCl ws H ∧ va_D (AA z0) ws ∧ (∀ L e, V L = some e → (ad L, e) ∈ ws) ∧ ∀ L L' e e', V L = some e → V L' = some e' → ad L = ad L' → L = L'
theorem HW.rd {D : va_G} {z0 : Nat} {ad : Nat → Nat} {V : Nat → Option va_E} {H : Heap} (h : HW D z0 ad V H) {L : Nat} {e : va_E} (hV : V L = some e) : va_P D vwCl [(ad L, e)] H := by
  obtain ⟨ws, hP, -, hm, -⟩ := h
  intro k q hk
  have h1 : k < 1 := (List.getElem?_eq_some_iff.mp hk).1
  rw [show k = 0 by omega] at hk
  cases hk
  obtain ⟨i, hi⟩ := List.getElem?_of_mem (hm L e hV)
  exact hP i _ hi
theorem HW.wr {D : va_G} {z0 : Nat} {ad : Nat → Nat} {V : Nat → Option va_E} {H : Heap} (h : HW D z0 ad V H) {L : Nat} {e0 : va_E} (hV : V L = some e0) :
    ∃ (ws : va_W) (k : Nat), va_P D vwCl ws H ∧ va_D (AA z0) ws ∧ ws[k]? = some (ad L, e0) ∧ ∀ (e1 : va_E) (H1 : Heap), va_P D vwCl (ws.set k (ad L, e1)) H1 → va_D (AA z0) (ws.set k (ad L, e1)) → HW D z0 ad (va_up V L (some e1)) H1 := by
  obtain ⟨ws, hP, hD, hm, hi⟩ := h
  obtain ⟨k, hk⟩ := List.getElem?_of_mem (hm L e0 hV)
  have hl := (List.getElem?_eq_some_iff.mp hk).1
  refine ⟨ws, k, hP, hD, hk, fun e1 H1 hP1 hD1 => ⟨_, hP1, hD1, fun L' e' hL' => ?_, fun L1 L2 x1 x2 h1 h2 ha => ?_⟩⟩
  · by_cases hq : L' = L
    · subst hq
      rw [va_up_self] at hL'
      cases hL'
      exact List.mem_of_getElem? (i := k) (List.getElem?_set_self hl)
    · rw [va_up_ne _ _ hq] at hL'
      obtain ⟨k', hk'⟩ := List.getElem?_of_mem (hm L' e' hL')
      have hne : k ≠ k' := fun q => by
        subst q
        rw [hk] at hk'
        have h5 : ad L = ad L' := congrArg (fun x : Option (Nat × va_E) => (x.map Prod.fst).getD 0) hk'
        exact hq (hi L L' e0 e' hV hL' h5).symm
      exact List.mem_of_getElem? (i := k') (by rw [List.getElem?_set_ne hne]; exact hk')
  · have live : ∀ M x, va_up V L (some e1) M = some x → ∃ y, V M = some y := fun M x hM => by
      by_cases hq : M = L
      · subst hq; exact ⟨e0, hV⟩
      · rw [va_up_ne _ _ hq] at hM; exact ⟨x, hM⟩
    obtain ⟨y1, g1⟩ := live L1 x1 h1
    obtain ⟨y2, g2⟩ := live L2 x2 h2
    exact hi L1 L2 y1 y2 g1 g2 ha
theorem HW.nw {D : va_G} {z0 : Nat} {ad : Nat → Nat} {V : Nat → Option va_E} {H : Heap} (h : HW D z0 ad V H) :
    ∃ ws : va_W, va_P D vwCl ws H ∧ va_D (AA z0) ws ∧ ∀ (L : Nat) (q : Nat) (e1 : va_E) (H1 : Heap), V L = none → va_P D vwCl (ws ++ [(q, e1)]) H1 → va_D (AA z0) (ws ++ [(q, e1)]) → HW D z0 (va_up ad L q) (va_up V L (some e1)) H1 := by
  obtain ⟨ws, hP, hD, hm, hi⟩ := h
  refine ⟨ws, hP, hD, fun L q e1 H1 hn hP1 hD1 => ⟨_, hP1, hD1, fun L' e' hL' => ?_, fun L1 L2 x1 x2 h1 h2 ha => ?_⟩⟩
  · by_cases hq : L' = L
    · subst hq
      rw [va_up_self] at hL'
      cases hL'
      rw [va_up_self]
      exact List.mem_append_right _ List.mem_cons_self
    · rw [va_up_ne _ _ hq] at hL'
      rw [va_up_ne _ _ hq]
      exact List.mem_append_left _ (hm L' e' hL')
  · have far : ∀ M x, V M = some x → ad M ≠ q := fun M x hM ha => by
      obtain ⟨k, hk⟩ := List.getElem?_of_mem (hm M x hM)
      have hl := (List.getElem?_eq_some_iff.mp hk).1
      have := hD1.1 k ws.length (ad M, x) (q, e1) (by rw [List.getElem?_append_left hl]; exact hk) (by rw [List.getElem?_append_right (Nat.le_refl _), Nat.sub_self]; rfl) ha
      omega
    by_cases q1 : L1 = L <;> by_cases q2 : L2 = L
    · rw [q1, q2]
    · subst q1
      rw [va_up_ne _ _ q2] at h2 ha
      rw [va_up_self] at ha
      exact absurd ha.symm (far L2 x2 h2)
    · subst q2
      rw [va_up_ne _ _ q1] at h1 ha
      rw [va_up_self] at ha
      exact absurd ha (far L1 x1 h1)
    · rw [va_up_ne _ _ q1] at h1 ha
      rw [va_up_ne _ _ q2] at h2 ha
      exact hi L1 L2 x1 x2 h1 h2 ha
/-- fewer cells, other words for the same -/
theorem HW.to {D : va_G} {z0 : Nat} {ad ad' : Nat → Nat} {V V' : Nat → Option va_E} {H : Heap} (h : HW D z0 ad V H) (hs : ∀ L e, V' L = some e → V L = some e ∧ ad' L = ad L) : HW D z0 ad' V' H := by
  obtain ⟨ws, hP, hD, hm, hi⟩ := h
  refine ⟨ws, hP, hD, fun L e hL => ?_, fun L1 L2 x1 x2 h1 h2 ha => ?_⟩
  · rw [(hs L e hL).2]; exact hm L e (hs L e hL).1
  · rw [(hs L1 x1 h1).2, (hs L2 x2 h2).2] at ha
    exact hi L1 L2 x1 x2 (hs L1 x1 h1).1 (hs L2 x2 h2).1 ha
abbrev Wd : Type := (Nat → Nat) × (Nat → Option va_E)
def WP (As : List Value) (D : va_G) (cy : Nat → ClassId) (z0 : Nat) (ad : Nat → Nat) (V : Nat → Option va_E) : Array Value → State → Prop := fun v U => v = As.toArray ∧ KB D cy U ∧ z0 ≤ U.heap.size ∧ HW D z0 ad V U.heap
def WB (D : va_G) (z0 : Nat) : Wd → State → Prop := fun u t => HW D z0 u.1 u.2 t.heap
theorem WP.blind {As : List Value} {D : va_G} {cy : Nat → ClassId} {z0 : Nat} {ad : Nat → Nat} {V : Nat → Option va_E} : FrameBlind (WP As D cy z0 ad V) := fun _ _ _ _ h => ⟨h.1, h.2.1.blind, h.2.2⟩
theorem preS {As : List Value} {D : va_G} {cy : Nat → ClassId} {z0 : Nat} {ad : Nat → Nat} {V : Nat → Option va_E} {s : State} {H : Heap} (hK : KB D cy s) (hz : z0 ≤ H.size) (hW : HW D z0 ad V H) : PreS s H (WP As D cy z0 ad V) As :=
  ⟨WP.blind, fun _ hU hw => ⟨rfl, hK.warm hw, by rw [hU]; exact hz, by rw [hU]; exact hW⟩⟩
theorem preV {As : List Value} {D : va_G} {cy : Nat → ClassId} {z0 : Nat} {ad : Nat → Nat} {V : Nat → Option va_E} {s : State} {H : Heap} {C : String} {T : u_T} {N ci L : Nat} {fs : List Value} (hK : KB D cy s) (hz : z0 ≤ H.size) (hW : HW D z0 ad V H) (hV : V L = some (.inr (ci, fs))) (hc : vwCl[ci]? = some (C, T, N)) : PreV s H C (ad L) (WP (.ref (ad L) :: As) D cy z0 ad V) As :=
  ⟨WP.blind, va_recv hK.2 (hW.rd hV) (ci := ci) (q0 := 0) hc rfl, fun _ hU hw => ⟨rfl, hK.warm hw, by rw [hU]; exact hz, by rw [hU]; exact hW⟩⟩
end
section
/-! rows of the kit over the world: arrays, calls, new arrays -/
theorem HW.wr2 {D : va_G} {z0 : Nat} {ad : Nat → Nat} {V : Nat → Option va_E} {H : Heap} (h : HW D z0 ad V H) {L : Nat} {e0 : va_E} (hV : V L = some e0) :
    ∃ (ws : va_W) (k : Nat), va_P D vwCl ws H ∧ va_D (AA z0) ws ∧ ws[k]? = some (ad L, e0) ∧ (∀ L' e', V L' = some e' → ∃ k' : Nat, ws[k']? = some (ad L', e')) ∧ ∀ (e1 : va_E) (H1 : Heap), va_P D vwCl (ws.set k (ad L, e1)) H1 → va_D (AA z0) (ws.set k (ad L, e1)) → HW D z0 ad (va_up V L (some e1)) H1 := by
  obtain ⟨ws, hP, hD, hm, hi⟩ := h
  obtain ⟨k, hk⟩ := List.getElem?_of_mem (hm L e0 hV)
  have hl := (List.getElem?_eq_some_iff.mp hk).1
  refine ⟨ws, k, hP, hD, hk, fun L' e' hL' => List.getElem?_of_mem (hm L' e' hL'), fun e1 H1 hP1 hD1 => ⟨_, hP1, hD1, fun L' e' hL' => ?_, fun L1 L2 x1 x2 h1 h2 ha => ?_⟩⟩
  · by_cases hq : L' = L
    · subst hq
      rw [va_up_self] at hL'
      cases hL'
      exact List.mem_of_getElem? (i := k) (List.getElem?_set_self hl)
    · rw [va_up_ne _ _ hq] at hL'
      obtain ⟨k', hk'⟩ := List.getElem?_of_mem (hm L' e' hL')
      have hne : k ≠ k' := fun q => by
        subst q
        rw [hk] at hk'
        have h5 : ad L = ad L' := congrArg (fun x : Option (Nat × va_E) => (x.map Prod.fst).getD 0) hk'
        exact hq (hi L L' e0 e' hV hL' h5).symm
      exact List.mem_of_getElem? (i := k') (by rw [List.getElem?_set_ne hne]; exact hk')
  · have live : ∀ M x, va_up V L (some e1) M = some x → ∃ y, V M = some y := fun M x hM => by
      by_cases hq : M = L
      · subst hq; exact ⟨e0, hV⟩
      · rw [va_up_ne _ _ hq] at hM; exact ⟨x, hM⟩
    obtain ⟨y1, g1⟩ := live L1 x1 h1
    obtain ⟨y2, g2⟩ := live L2 x2 h2
    exact hi L1 L2 y1 y2 g1 g2 ha
section RW
variable {p : Program} {l : Launch} {e : Env} {R : Room} {s : State} {m : MethodId} {args : Array Value} {below : List Frame} {meth : Method} {c : Code} {H : Heap} {locs : List Loc} {cells slots : Nat} {Q : State → Prop}
variable {cc : ByteArray} {pc : Nat} {ls : Array Slot} {rest : List Value} {D : va_G} {cy : Nat → ClassId} {z0 : Nat} {ad : Nat → Nat} {V : Nat → Option va_E} {H0 : Heap} {L : Nat}
theorem w_iald (hx : p.tables.exec = Jvm.exec) (hb : c.code = cc) (hK : KB D cy s) (hW : HW D z0 ad V H) {n j : Nat} {f : Nat → Int32} (hV : V L = some (.inl (cy 0, n, .inl f))) {i : Int32} (hi : i = nI j) (hj : j < n) (hn : n < 2 ^ 31) (hdg : decode cc pc = .ok (.iaload, 1))
    (kk : W p l e R s m args below meth c H locs cells slots Q (F0 m (pc + 1) ls (.int (f j) :: rest))) : W p l e R s m args below meth c H locs cells slots Q (F0 m pc ls (.int i :: .ref (ad L) :: rest)) := by
  subst hi
  refine va_iald hx hb hK.2 (hW.rd hV) 0 0 rfl rfl (vp_in_nI hj hn) hdg ?_
  rw [nI_clamp (by omega)]
  exact kk
theorem w_zald (hx : p.tables.exec = Jvm.exec) (hb : c.code = cc) (hK : KB D cy s) (hW : HW D z0 ad V H) {n j : Nat} {f : Nat → Int32} (hV : V L = some (.inl (cy 2, n, .inl f))) {i : Int32} (hi : i = nI j) (hj : j < n) (hn : n < 2 ^ 31) (hdg : decode cc pc = .ok (.baload, 1))
    (kk : W p l e R s m args below meth c H locs cells slots Q (F0 m (pc + 1) ls (.int (f j) :: rest))) : W p l e R s m args below meth c H locs cells slots Q (F0 m pc ls (.int i :: .ref (ad L) :: rest)) := by
  subst hi
  refine va_zald hx hb hK.2 (hW.rd hV) 0 2 rfl rfl (vp_in_nI hj hn) hdg ?_
  rw [nI_clamp (by omega)]
  exact kk
theorem w_lald (hx : p.tables.exec = Jvm.exec) (hb : c.code = cc) (hK : KB D cy s) (hW : HW D z0 ad V H) {n j : Nat} {f : Nat → Int64} (hV : V L = some (.inl (cy 1, n, .inr (.inl f)))) {i : Int32} (hi : i = nI j) (hj : j < n) (hn : n < 2 ^ 31) (hdg : decode cc pc = .ok (.laload, 1))
    (kk : W p l e R s m args below meth c H locs cells slots Q (F0 m (pc + 1) ls (.long (f j) :: rest))) : W p l e R s m args below meth c H locs cells slots Q (F0 m pc ls (.int i :: .ref (ad L) :: rest)) := by
  subst hi
  refine va_lald hx hb hK.2 (hW.rd hV) 0 1 rfl rfl (vp_in_nI hj hn) hdg ?_
  rw [nI_clamp (by omega)]
  exact kk
/-- a row of an array of arrays, or of objects: ty the kind of what it holds -/
theorem w_aald (hx : p.tables.exec = Jvm.exec) (hb : c.code = cc) (hK : KB D cy s) (hW : HW D z0 ad V H) (t0 : Nat) {ty : FieldType} (ht : (tyL cy)[t0]? = some (cy t0, ty)) (hty : ty.isReference = true) {n j : Nat} {f : Nat → Option Nat} (hV : V L = some (.inl (cy t0, n, .inr (.inr (.inr (.inr f)))))) {i : Int32} (hi : i = nI j) (hj : j < n) (hn : n < 2 ^ 31) (hdg : decode cc pc = .ok (.aaload, 1))
    (kk : W p l e R s m args below meth c H locs cells slots Q (F0 m (pc + 1) ls (va_rf (f j) :: rest))) : W p l e R s m args below meth c H locs cells slots Q (F0 m pc ls (.int i :: .ref (ad L) :: rest)) := by
  subst hi
  have hin := vp_in_nI hj hn
  refine W.aald (v := va_rf (f j)) (ty := ty) hx hb (hW.rd hV 0 _ rfl) ((hK.2.2 t0 _ ht).1 n (fun j => va_rf (f j))) hty (fun q => by cases q) (by show ¬ (nI j < 0 ∨ (arrV _ _ _).slots.size ≤ _); rw [arrV_size]; exact hin) ?_ rfl rfl hdg kk
  show (arrV _ _ _).slots[_]? = _
  rw [nI_clamp (by omega), arrV_read _ _ hj]
theorem w_iast (hx : p.tables.exec = Jvm.exec) (hb : c.code = cc) (hK : KB D cy s) (hW : HW D z0 ad V H) (hS : va_S (AA z0) H0 H locs) {n j : Nat} {f : Nat → Int32} (hV : V L = some (.inl (cy 0, n, .inl f))) {i x : Int32} (hi : i = nI j) (hj : j < n) (hn : n < 2 ^ 31) (hdg : decode cc pc = .ok (.iastore, 1))
    (kk : ∀ (H1 : Heap) (locs1 : List Loc), HW D z0 ad (va_up V L (some (.inl (cy 0, n, .inl (upd f j x))))) H1 → va_S (AA z0) H0 H1 locs1 → W p l e R s m args below meth c H1 locs1 cells slots Q (F0 m (pc + 1) ls rest)) : W p l e R s m args below meth c H locs cells slots Q (F0 m pc ls (.int x :: .int i :: .ref (ad L) :: rest)) := by
  subst hi
  obtain ⟨ws, k, hP, hD, hk, hnew⟩ := hW.wr hV
  refine va_iast hx hb hK.2 hP hD hS k 0 hk rfl (vp_in_nI hj hn) hdg (fun H1 locs1 hP1 hD1 hS1 => ?_)
  rw [nI_clamp (by omega)] at hP1 hD1
  exact kk H1 locs1 (hnew _ _ hP1 hD1) hS1
theorem w_zast (hx : p.tables.exec = Jvm.exec) (hb : c.code = cc) (hK : KB D cy s) (hW : HW D z0 ad V H) (hS : va_S (AA z0) H0 H locs) {n j : Nat} {f : Nat → Int32} (hV : V L = some (.inl (cy 2, n, .inl f))) {i x : Int32} (hi : i = nI j) (hj : j < n) (hn : n < 2 ^ 31) (hxb : vp_nar .boolean x = x) (hdg : decode cc pc = .ok (.bastore, 1))
    (kk : ∀ (H1 : Heap) (locs1 : List Loc), HW D z0 ad (va_up V L (some (.inl (cy 2, n, .inl (upd f j x))))) H1 → va_S (AA z0) H0 H1 locs1 → W p l e R s m args below meth c H1 locs1 cells slots Q (F0 m (pc + 1) ls rest)) : W p l e R s m args below meth c H locs cells slots Q (F0 m pc ls (.int x :: .int i :: .ref (ad L) :: rest)) := by
  subst hi
  obtain ⟨ws, k, hP, hD, hk, hnew⟩ := hW.wr hV
  refine va_zast hx hb hK.2 hP hD hS k 2 hk rfl (vp_in_nI hj hn) hdg (fun H1 locs1 hP1 hD1 hS1 => ?_)
  rw [nI_clamp (by omega), hxb] at hP1 hD1
  exact kk H1 locs1 (hnew _ _ hP1 hD1) hS1
theorem w_last (hx : p.tables.exec = Jvm.exec) (hb : c.code = cc) (hK : KB D cy s) (hW : HW D z0 ad V H) (hS : va_S (AA z0) H0 H locs) {n j : Nat} {f : Nat → Int64} (hV : V L = some (.inl (cy 1, n, .inr (.inl f)))) {i : Int32} {x : Int64} (hi : i = nI j) (hj : j < n) (hn : n < 2 ^ 31) (hdg : decode cc pc = .ok (.lastore, 1))
    (kk : ∀ (H1 : Heap) (locs1 : List Loc), HW D z0 ad (va_up V L (some (.inl (cy 1, n, .inr (.inl (vp_updL f j x)))))) H1 → va_S (AA z0) H0 H1 locs1 → W p l e R s m args below meth c H1 locs1 cells slots Q (F0 m (pc + 1) ls rest)) : W p l e R s m args below meth c H locs cells slots Q (F0 m pc ls (.long x :: .int i :: .ref (ad L) :: rest)) := by
  subst hi
  obtain ⟨ws, k, hP, hD, hk, hnew⟩ := hW.wr hV
  refine va_last hx hb hK.2 hP hD hS k 1 hk rfl (vp_in_nI hj hn) hdg (fun H1 locs1 hP1 hD1 hS1 => ?_)
  rw [nI_clamp (by omega)] at hP1 hD1
  exact kk H1 locs1 (hnew _ _ hP1 hD1) hS1
theorem w_astq (hx : p.tables.exec = Jvm.exec) (hb : c.code = cc) (hK : KB D cy s) (hW : HW D z0 ad V H) (hS : va_S (AA z0) H0 H locs) (t0 ci : Nat) {r : vw_C} (ht : (tyL cy)[t0]? = some (cy t0, .object r.1)) (hc : vwCl[ci]? = some r) {n j : Nat} {f : Nat → Option Nat} (hV : V L = some (.inl (cy t0, n, .inr (.inr (.inr (.inr f)))))) {L2 : Nat} {vs : List Value} (hV2 : V L2 = some (.inr (ci, vs))) {i : Int32} (hi : i = nI j) (hj : j < n) (hn : n < 2 ^ 31) (hdg : decode cc pc = .ok (.aastore, 1))
    (kk : ∀ (H1 : Heap) (locs1 : List Loc), HW D z0 ad (va_up V L (some (.inl (cy t0, n, .inr (.inr (.inr (.inr (va_up f j (some (ad L2)))))))))) H1 → va_S (AA z0) H0 H1 locs1 → W p l e R s m args below meth c H1 locs1 cells slots Q (F0 m (pc + 1) ls rest)) : W p l e R s m args below meth c H locs cells slots Q (F0 m pc ls (.ref (ad L2) :: .int i :: .ref (ad L) :: rest)) := by
  subst hi
  obtain ⟨ws, k, hP, hD, hk, hall, hnew⟩ := hW.wr2 hV
  obtain ⟨k2, hk2⟩ := hall L2 _ hV2
  refine va_astq hx hb hK.2 hP hD hS k t0 k2 ci hk ht hk2 hc (vp_in_nI hj hn) hdg (fun H1 locs1 hP1 hD1 hS1 => ?_)
  rw [nI_clamp (by omega)] at hP1 hD1
  exact kk H1 locs1 (hnew _ _ hP1 hD1) hS1
theorem w_copyi (hx : p.tables.exec = Jvm.exec) (hb : c.code = cc) (hml : c.maxLocals = ls.size) {own : String} {index : Nat} (hown : s.vm.findClass own = some m.cls) (hlink : Cond.methodLink own index arraycopyName ∈ lt) (hnat : Cond.native arraycopyName ∈ lt) (hstat : Cond.static arraycopyName ∈ lt) (hini : Cond.initialized "java/lang/System" ∈ lt)
    (hK : KB D cy s) (hW : HW D z0 ad V H) (hS : va_S (AA z0) H0 H locs) {L2 n0 n1 : Nat} {f g : Nat → Int32} (hV0 : V L2 = some (.inl (cy 0, n0, .inl f))) (hV1 : V L = some (.inl (cy 0, n1, .inl g)))
    {sp dp n : Int32} {a b k : Nat} (ha : sp = nI a) (hb2 : dp = nI b) (hk : n = nI k) (h4 : a + k ≤ n0) (h5 : b + k ≤ n1) (h6 : n0 < 2 ^ 31) (h7 : n1 < 2 ^ 31)
    (hframes : 1 ≤ R.frames) (hlocals : (rest.map fun v => v.category).sum + (nativeFrameWords "java/lang/System" "arraycopy" 5 + 11) ≤ R.locals) (hdg : decode cc pc = .ok (.invokestatic index, 3))
    (kk : ∀ (H1 : Heap) (locs1 : List Loc), HW D z0 ad (va_up V L (some (.inl (cy 0, n1, .inl (va_cpy f g a b k))))) H1 → va_S (AA z0) H0 H1 locs1 → W p l e R s m args below meth c H1 locs1 cells slots Q (F0 m (pc + 3) ls rest)) : W p l e R s m args below meth c H locs cells slots Q (F0 m pc ls (.int n :: .int dp :: .ref (ad L) :: .int sp :: .ref (ad L2) :: rest)) := by
  subst ha; subst hb2; subst hk
  obtain ⟨ws, k1, hP, hD, hk1, hall, hnew⟩ := hW.wr2 hV1
  obtain ⟨k0, hk0⟩ := hall L2 _ hV0
  have ht := hK.1.use args
  refine va_copyi hx hb hml hown (ht _ hlink) (ht _ hnat) (ht _ hstat) (ht _ hini) hK.2 hP hD hS k0 k1 0 0 hk0 hk1 rfl rfl rfl (nI_pos (by omega)) (nI_pos (by omega)) (nI_pos (by omega)) (by rw [nI_clamp (by omega), nI_clamp (by omega)]; exact h4) (by rw [nI_clamp (by omega), nI_clamp (by omega)]; exact h5) (fun _ _ => rfl) hframes hlocals hdg (fun H1 locs1 hP1 hD1 hS1 => ?_)
  rw [nI_clamp (by omega), nI_clamp (by omega), nI_clamp (by omega)] at hP1 hD1
  exact kk H1 locs1 (hnew _ _ hP1 hD1) hS1
theorem w_copyl (hx : p.tables.exec = Jvm.exec) (hb : c.code = cc) (hml : c.maxLocals = ls.size) {own : String} {index : Nat} (hown : s.vm.findClass own = some m.cls) (hlink : Cond.methodLink own index arraycopyName ∈ lt) (hnat : Cond.native arraycopyName ∈ lt) (hstat : Cond.static arraycopyName ∈ lt) (hini : Cond.initialized "java/lang/System" ∈ lt)
    (hK : KB D cy s) (hW : HW D z0 ad V H) (hS : va_S (AA z0) H0 H locs) {L2 n0 n1 : Nat} {f g : Nat → Int64} (hV0 : V L2 = some (.inl (cy 1, n0, .inr (.inl f)))) (hV1 : V L = some (.inl (cy 1, n1, .inr (.inl g))))
    {sp dp n : Int32} {a b k : Nat} (ha : sp = nI a) (hb2 : dp = nI b) (hk : n = nI k) (h4 : a + k ≤ n0) (h5 : b + k ≤ n1) (h6 : n0 < 2 ^ 31) (h7 : n1 < 2 ^ 31)
    (hframes : 1 ≤ R.frames) (hlocals : (rest.map fun v => v.category).sum + (nativeFrameWords "java/lang/System" "arraycopy" 5 + 11) ≤ R.locals) (hdg : decode cc pc = .ok (.invokestatic index, 3))
    (kk : ∀ (H1 : Heap) (locs1 : List Loc), HW D z0 ad (va_up V L (some (.inl (cy 1, n1, .inr (.inl (va_cpy f g a b k)))))) H1 → va_S (AA z0) H0 H1 locs1 → W p l e R s m args below meth c H1 locs1 cells slots Q (F0 m (pc + 3) ls rest)) : W p l e R s m args below meth c H locs cells slots Q (F0 m pc ls (.int n :: .int dp :: .ref (ad L) :: .int sp :: .ref (ad L2) :: rest)) := by
  subst ha; subst hb2; subst hk
  obtain ⟨ws, k1, hP, hD, hk1, hall, hnew⟩ := hW.wr2 hV1
  obtain ⟨k0, hk0⟩ := hall L2 _ hV0
  have ht := hK.1.use args
  refine va_copyl hx hb hml hown (ht _ hlink) (ht _ hnat) (ht _ hstat) (ht _ hini) hK.2 hP hD hS k0 k1 1 1 hk0 hk1 rfl rfl rfl (nI_pos (by omega)) (nI_pos (by omega)) (nI_pos (by omega)) (by rw [nI_clamp (by omega), nI_clamp (by omega)]; exact h4) (by rw [nI_clamp (by omega), nI_clamp (by omega)]; exact h5) (fun _ _ => rfl) hframes hlocals hdg (fun H1 locs1 hP1 hD1 hS1 => ?_)
  rw [nI_clamp (by omega), nI_clamp (by omega), nI_clamp (by omega)] at hP1 hD1
  exact kk H1 locs1 (hnew _ _ hP1 hD1) hS1
/-- a new array of numbers, given the label M -/
theorem w_newa (hx : p.tables.exec = Jvm.exec) (hb : c.code = cc) (hK : KB D cy s) (hW : HW D z0 ad V H) (hS : va_S (AA z0) H0 H locs) (hz : z0 ≤ H0.size) (t0 : Nat) {atype : ArrayType} {ty : FieldType} (hty : newarray.typeOf atype = ty) (harr : Cond.arrayClass (newarray.typeOf atype) ∈ lt) (ht : (tyL cy)[t0]? = some (cy t0, ty)) (hra : ∀ a b : ClassId, va_RA s a ty → va_RA s b ty → a = b) (M : Nat) (hM : V M = none)
    {n : Int32} {N' : Nat} {a0 : vp_A} (ha : ∀ cA : ClassId, vp_cell cA a0 = arrV cA N' (fun _ => defaultValue ty)) (hn : ¬ n < 0) (hN : n.toNatClampNeg = N') (hbytes : N' * componentBytes ty ≤ 536870912) (hcells : cells + 1 ≤ R.cells) (hslots : slots + N' ≤ R.slots) (hdg : decode cc pc = .ok (.newarray atype, 2))
    (kk : ∀ (q : Nat) (H1 : Heap), HW D z0 (va_up ad M q) (va_up V M (some (.inl (cy t0, a0)))) H1 → va_S (AA z0) H0 H1 locs → W p l e R s m args below meth c H1 locs (cells + 1) (slots + N') Q (F0 m (pc + 2) ls (.ref q :: rest))) : W p l e R s m args below meth c H locs cells slots Q (F0 m pc ls (.int n :: rest)) := by
  obtain ⟨ws, hP, hD, hnew⟩ := hW.nw
  refine va_newa hx hb (hK.1.use args _ harr) hty hK.2 hP hD hS (fun q h => Nat.le_trans hz h) ha hn hN hbytes hcells hslots hdg (fun q cA H1 hK1 hP1 hD1 hS1 => ?_)
  have e1 : va_RA s cA ty := (hK1.2 8 (cA, ty) rfl).2
  have e2 : va_RA s (cy t0) ty := (hK.2.2 t0 _ ht).2
  have e3 : cA = cy t0 := hra _ _ e1 e2
  subst e3
  exact kk q H1 (hnew M q _ H1 hM hP1 hD1) hS1
/-- a new array of objects -/
theorem w_newq (hx : p.tables.exec = Jvm.exec) (hb : c.code = cc) {own C : String} {index : Nat} (hown : s.vm.findClass own = some m.cls) (hclink : Cond.classLink own index C ∈ lt) (hover : Cond.arrayOver (.object C) ∈ lt) (hK : KB D cy s) (hW : HW D z0 ad V H) (hS : va_S (AA z0) H0 H locs) (hz : z0 ≤ H0.size) (t0 : Nat) (ht : (tyL cy)[t0]? = some (cy t0, .object C)) (M : Nat) (hM : V M = none)
    {n : Int32} {N' : Nat} (hn : ¬ n < 0) (hN : n.toNatClampNeg = N') (hbytes : N' * 4 ≤ 536870912) (hcells : cells + 1 ≤ R.cells) (hslots : slots + N' ≤ R.slots) (hdg : decode cc pc = .ok (.anewarray index, 3))
    (kk : ∀ (q : Nat) (H1 : Heap), HW D z0 (va_up ad M q) (va_up V M (some (.inl (cy t0, N', .inr (.inr (.inr (.inr (fun _ => none)))))))) H1 → va_S (AA z0) H0 H1 locs → W p l e R s m args below meth c H1 locs (cells + 1) (slots + N') Q (F0 m (pc + 3) ls (.ref q :: rest))) : W p l e R s m args below meth c H locs cells slots Q (F0 m pc ls (.int n :: rest)) := by
  obtain ⟨ws, hP, hD, hnew⟩ := hW.nw
  refine va_newq hx hb hown (hK.1.use args _ hclink) (hK.1 _ hover) hK.2 hP hD hS (fun q h => Nat.le_trans hz h) hn hN hbytes hcells hslots hdg (fun q cA H1 hK1 hP1 hD1 hS1 => ?_)
  obtain ⟨_, _, _, _, _, e1⟩ := (hK1.2 8 (cA, .object C) rfl).2
  obtain ⟨_, _, _, _, _, e2⟩ := (hK.2.2 t0 _ ht).2
  have e3 : cA = cy t0 := Option.some.inj (e1.symm.trans e2)
  subst e3
  exact kk q H1 (hnew M q _ H1 hM hP1 hD1) hS1
/-! calls: what comes back -/
theorem ci {post : Int32 → Wd → Prop} {a : Array Value} {mc ms : Nat} {st0 : List Value} (hr : va_Run p l e R s m args below meth c H locs cells slots mc ms (F0 m pc ls st0) rest (va_Qi post (WB D z0) (AA z0) a) (AA z0)) (hS : va_S (AA z0) H0 H locs)
    (kk : ∀ (r : Int32) (ad' : Nat → Nat) (V' : Nat → Option va_E) (H1 : Heap) (locs1 : List Loc), post r (ad', V') → HW D z0 ad' V' H1 → va_S (AA z0) H0 H1 locs1 → W p l e R s m args below meth c H1 locs1 (cells + mc) (slots + ms) Q (F0 m (pc + 3) ls (.int r :: rest))) : W p l e R s m args below meth c H locs cells slots Q (F0 m pc ls st0) :=
  va_calli hr hS (fun _ _ h => h) (fun _ h => h) (fun r u t H1 locs1 ht _ hp hB _ _ hS1 => kk r u.1 u.2 H1 locs1 hp (by subst ht; exact hB) hS1)
theorem cl {post : Int64 → Wd → Prop} {a : Array Value} {mc ms : Nat} {st0 : List Value} (hr : va_Run p l e R s m args below meth c H locs cells slots mc ms (F0 m pc ls st0) rest (va_Ql post (WB D z0) (AA z0) a) (AA z0)) (hS : va_S (AA z0) H0 H locs)
    (kk : ∀ (r : Int64) (ad' : Nat → Nat) (V' : Nat → Option va_E) (H1 : Heap) (locs1 : List Loc), post r (ad', V') → HW D z0 ad' V' H1 → va_S (AA z0) H0 H1 locs1 → W p l e R s m args below meth c H1 locs1 (cells + mc) (slots + ms) Q (F0 m (pc + 3) ls (.long r :: rest))) : W p l e R s m args below meth c H locs cells slots Q (F0 m pc ls st0) :=
  va_calll hr hS (fun _ _ h => h) (fun _ h => h) (fun r u t H1 locs1 ht _ hp hB _ _ hS1 => kk r u.1 u.2 H1 locs1 hp (by subst ht; exact hB) hS1)
theorem cv {post : Wd → Prop} {a : Array Value} {mc ms : Nat} {st0 : List Value} (hr : va_Run p l e R s m args below meth c H locs cells slots mc ms (F0 m pc ls st0) rest (va_Qv post (WB D z0) (AA z0) a) (AA z0)) (hS : va_S (AA z0) H0 H locs)
    (kk : ∀ (ad' : Nat → Nat) (V' : Nat → Option va_E) (H1 : Heap) (locs1 : List Loc), post (ad', V') → HW D z0 ad' V' H1 → va_S (AA z0) H0 H1 locs1 → W p l e R s m args below meth c H1 locs1 (cells + mc) (slots + ms) Q (F0 m (pc + 3) ls rest)) : W p l e R s m args below meth c H locs cells slots Q (F0 m pc ls st0) :=
  va_callv hr hS (fun _ _ h => h) (fun _ h => h) (fun u t H1 locs1 ht _ hp hB _ _ hS1 => kk u.1 u.2 H1 locs1 hp (by subst ht; exact hB) hS1)
end RW
end
section
theorem tw_0 : (Cond.initialized RL) ∈ lt := lt_in (List.mem_append_right _ (List.mem_of_getElem? (i := 0) (by decide +kernel))) (by decide +kernel)
theorem tw_1 : (Cond.initialized RX6) ∈ lt := lt_in (List.mem_append_right _ (List.mem_of_getElem? (i := 1) (by decide +kernel))) (by decide +kernel)
theorem tw_2 : (Cond.initialized RX3) ∈ lt := lt_in (List.mem_append_right _ (List.mem_of_getElem? (i := 2) (by decide +kernel))) (by decide +kernel)
theorem tw_3 : (Cond.initialized RX1) ∈ lt := lt_in (List.mem_append_right _ (List.mem_of_getElem? (i := 3) (by decide +kernel))) (by decide +kernel)
theorem tw_4 : (Cond.initialized RX5) ∈ lt := lt_in (List.mem_append_right _ (List.mem_of_getElem? (i := 4) (by decide +kernel))) (by decide +kernel)
theorem tw_5 : (Cond.initialized RX0) ∈ lt := lt_in (List.mem_append_right _ (List.mem_of_getElem? (i := 5) (by decide +kernel))) (by decide +kernel)
theorem tw_6 : (Cond.initialized RX7) ∈ lt := lt_in (List.mem_append_right _ (List.mem_of_getElem? (i := 6) (by decide +kernel))) (by decide +kernel)
theorem tw_7 : (Cond.initialized RJ10) ∈ lt := lt_in (List.mem_append_right _ (List.mem_of_getElem? (i := 7) (by decide +kernel))) (by decide +kernel)
theorem tw_8 : (Cond.initialized RJ9) ∈ lt := lt_in (List.mem_append_right _ (List.mem_of_getElem? (i := 8) (by decide +kernel))) (by decide +kernel)
theorem tw_9 : (Cond.initialized RX2) ∈ lt := lt_in (List.mem_append_right _ (List.mem_of_getElem? (i := 9) (by decide +kernel))) (by decide +kernel)
theorem tw_10 : (Cond.initialized RX4) ∈ lt := lt_in (List.mem_append_right _ (List.mem_of_getElem? (i := 10) (by decide +kernel))) (by decide +kernel)
theorem tw_11 : (Cond.classLink RL 7 RX6) ∈ lt := lt_in (List.mem_append_right _ (List.mem_of_getElem? (i := 11) (by decide +kernel))) (by decide +kernel)
theorem tw_12 : (Cond.instantiable RX6 6) ∈ lt := lt_in (List.mem_append_right _ (List.mem_of_getElem? (i := 12) (by decide +kernel))) (by decide +kernel)
theorem tw_13 : (Cond.methodLink RL 9 yX6_init) ∈ lt := lt_in (List.mem_append_right _ (List.mem_of_getElem? (i := 13) (by decide +kernel))) (by decide +kernel)
theorem tw_14 : (Cond.instanceMethod yX6_init) ∈ lt := lt_in (List.mem_append_right _ (List.mem_of_getElem? (i := 14) (by decide +kernel))) (by decide +kernel)
theorem tw_15 : (Cond.code yX6_init cX6_init 2 none) ∈ lt := lt_in (List.mem_append_right _ (List.mem_of_getElem? (i := 15) (by decide +kernel))) (by decide +kernel)
theorem tw_16 : (Cond.methodLink RX6 1 objectInit) ∈ lt := lt_in (List.mem_append_right _ (List.mem_of_getElem? (i := 16) (by decide +kernel))) (by decide +kernel)
theorem tw_17 : (Cond.instanceMethod objectInit) ∈ lt := lt_in (List.mem_append_right _ (List.mem_of_getElem? (i := 17) (by decide +kernel))) (by decide +kernel)
theorem tw_19 : (Cond.classLink RX6 7 RX3) ∈ lt := lt_in (List.mem_append_right _ (List.mem_of_getElem? (i := 19) (by decide +kernel))) (by decide +kernel)
theorem tw_20 : (Cond.instantiable RX3 2) ∈ lt := lt_in (List.mem_append_right _ (List.mem_of_getElem? (i := 20) (by decide +kernel))) (by decide +kernel)
theorem tw_21 : (Cond.methodLinkNest RX6 9 yX3_init RX6) ∈ lt := lt_in (List.mem_append_right _ (List.mem_of_getElem? (i := 21) (by decide +kernel))) (by decide +kernel)
theorem tw_22 : (Cond.instanceMethod yX3_init) ∈ lt := lt_in (List.mem_append_right _ (List.mem_of_getElem? (i := 22) (by decide +kernel))) (by decide +kernel)
theorem tw_23 : (Cond.code yX3_init cX3_init 1 none) ∈ lt := lt_in (List.mem_append_right _ (List.mem_of_getElem? (i := 23) (by decide +kernel))) (by decide +kernel)
theorem tw_24 : (Cond.methodLink RX3 3 objectInit) ∈ lt := lt_in (List.mem_append_right _ (List.mem_of_getElem? (i := 24) (by decide +kernel))) (by decide +kernel)
theorem tw_25 : (Cond.classLink RX3 9 RX2) ∈ lt := lt_in (List.mem_append_right _ (List.mem_of_getElem? (i := 25) (by decide +kernel))) (by decide +kernel)
theorem tw_26 : (Cond.arrayOver (.object RX2)) ∈ lt := lt_in (List.mem_append_right _ (List.mem_of_getElem? (i := 26) (by decide +kernel))) (by decide +kernel)
theorem tw_27 : (Cond.fieldLink RX3 11 "ScoreDifferences$Rulebook" "rules" "[LScoreDifferences$Rule;") ∈ lt := lt_in (List.mem_append_right _ (List.mem_of_getElem? (i := 27) (by decide +kernel))) (by decide +kernel)
theorem tw_28 : (Cond.fieldLinkNest RX1 63 "ScoreDifferences$Rulebook" "rules" "[LScoreDifferences$Rule;" RX6) ∈ lt := lt_in (List.mem_append_right _ (List.mem_of_getElem? (i := 28) (by decide +kernel))) (by decide +kernel)
theorem tw_29 : (Cond.fieldLink RX3 17 "ScoreDifferences$Rulebook" "size" "I") ∈ lt := lt_in (List.mem_append_right _ (List.mem_of_getElem? (i := 29) (by decide +kernel))) (by decide +kernel)
theorem tw_30 : (Cond.fieldLinkNest RX1 48 "ScoreDifferences$Rulebook" "size" "I" RX6) ∈ lt := lt_in (List.mem_append_right _ (List.mem_of_getElem? (i := 30) (by decide +kernel))) (by decide +kernel)
theorem tw_31 : (Cond.fieldLinkNest RX6 56 "ScoreDifferences$Rulebook" "size" "I" RX6) ∈ lt := lt_in (List.mem_append_right _ (List.mem_of_getElem? (i := 31) (by decide +kernel))) (by decide +kernel)
theorem tw_37 : (Cond.classLink RX6 16 RX1) ∈ lt := lt_in (List.mem_append_right _ (List.mem_of_getElem? (i := 37) (by decide +kernel))) (by decide +kernel)
theorem tw_38 : (Cond.arrayOver (.object RX1)) ∈ lt := lt_in (List.mem_append_right _ (List.mem_of_getElem? (i := 38) (by decide +kernel))) (by decide +kernel)
theorem tw_39 : (Cond.instantiable RX1 11) ∈ lt := lt_in (List.mem_append_right _ (List.mem_of_getElem? (i := 39) (by decide +kernel))) (by decide +kernel)
theorem tw_40 : (Cond.methodLink RX6 22 yX1_init) ∈ lt := lt_in (List.mem_append_right _ (List.mem_of_getElem? (i := 40) (by decide +kernel))) (by decide +kernel)
theorem tw_41 : (Cond.instanceMethod yX1_init) ∈ lt := lt_in (List.mem_append_right _ (List.mem_of_getElem? (i := 41) (by decide +kernel))) (by decide +kernel)
theorem tw_42 : (Cond.code yX1_init cX1_init 2 none) ∈ lt := lt_in (List.mem_append_right _ (List.mem_of_getElem? (i := 42) (by decide +kernel))) (by decide +kernel)
theorem tw_43 : (Cond.methodLink RX1 3 objectInit) ∈ lt := lt_in (List.mem_append_right _ (List.mem_of_getElem? (i := 43) (by decide +kernel))) (by decide +kernel)
theorem tw_44 : (Cond.classLink RX1 9 RX5) ∈ lt := lt_in (List.mem_append_right _ (List.mem_of_getElem? (i := 44) (by decide +kernel))) (by decide +kernel)
theorem tw_45 : (Cond.instantiable RX5 2) ∈ lt := lt_in (List.mem_append_right _ (List.mem_of_getElem? (i := 45) (by decide +kernel))) (by decide +kernel)
theorem tw_46 : (Cond.methodLinkNest RX1 11 yX5_init RX6) ∈ lt := lt_in (List.mem_append_right _ (List.mem_of_getElem? (i := 46) (by decide +kernel))) (by decide +kernel)
theorem tw_47 : (Cond.instanceMethod yX5_init) ∈ lt := lt_in (List.mem_append_right _ (List.mem_of_getElem? (i := 47) (by decide +kernel))) (by decide +kernel)
theorem tw_48 : (Cond.code yX5_init cX5_init 1 none) ∈ lt := lt_in (List.mem_append_right _ (List.mem_of_getElem? (i := 48) (by decide +kernel))) (by decide +kernel)
theorem tw_49 : (Cond.methodLink RX5 3 objectInit) ∈ lt := lt_in (List.mem_append_right _ (List.mem_of_getElem? (i := 49) (by decide +kernel))) (by decide +kernel)
theorem tw_50 : (Cond.classLink RX5 9 "[[I") ∈ lt := lt_in (List.mem_append_right _ (List.mem_of_getElem? (i := 50) (by decide +kernel))) (by decide +kernel)
theorem tw_51 : (Cond.arrayOver (.array .int)) ∈ lt := lt_in (List.mem_append_right _ (List.mem_of_getElem? (i := 51) (by decide +kernel))) (by decide +kernel)
theorem tw_52 : (Cond.fieldLink RX5 11 "ScoreDifferences$Table" "rows" "[[I") ∈ lt := lt_in (List.mem_append_right _ (List.mem_of_getElem? (i := 52) (by decide +kernel))) (by decide +kernel)
theorem tw_53 : (Cond.fieldLinkNest RX2 27 "ScoreDifferences$Table" "rows" "[[I" RX6) ∈ lt := lt_in (List.mem_append_right _ (List.mem_of_getElem? (i := 53) (by decide +kernel))) (by decide +kernel)
theorem tw_54 : (Cond.fieldLinkNest RX1 94 "ScoreDifferences$Table" "rows" "[[I" RX6) ∈ lt := lt_in (List.mem_append_right _ (List.mem_of_getElem? (i := 54) (by decide +kernel))) (by decide +kernel)
theorem tw_55 : (Cond.fieldLink RX5 16 "ScoreDifferences$Table" "objects" "I") ∈ lt := lt_in (List.mem_append_right _ (List.mem_of_getElem? (i := 55) (by decide +kernel))) (by decide +kernel)
theorem tw_56 : (Cond.fieldLinkNest RX2 33 "ScoreDifferences$Table" "objects" "I" RX6) ∈ lt := lt_in (List.mem_append_right _ (List.mem_of_getElem? (i := 56) (by decide +kernel))) (by decide +kernel)
theorem tw_57 : (Cond.fieldLinkNest RX6 43 "ScoreDifferences$Table" "objects" "I" RX6) ∈ lt := lt_in (List.mem_append_right _ (List.mem_of_getElem? (i := 57) (by decide +kernel))) (by decide +kernel)
theorem tw_58 : (Cond.fieldLinkNest RX1 60 "ScoreDifferences$Table" "objects" "I" RX6) ∈ lt := lt_in (List.mem_append_right _ (List.mem_of_getElem? (i := 58) (by decide +kernel))) (by decide +kernel)
theorem tw_64 : (Cond.arrayClass .int) ∈ lt := lt_in (List.mem_append_right _ (List.mem_of_getElem? (i := 64) (by decide +kernel))) (by decide +kernel)
theorem tw_65 : (Cond.classLink RX1 29 RX0) ∈ lt := lt_in (List.mem_append_right _ (List.mem_of_getElem? (i := 65) (by decide +kernel))) (by decide +kernel)
theorem tw_66 : (Cond.instantiable RX0 6) ∈ lt := lt_in (List.mem_append_right _ (List.mem_of_getElem? (i := 66) (by decide +kernel))) (by decide +kernel)
theorem tw_67 : (Cond.methodLinkNest RX1 31 yX0_init RX6) ∈ lt := lt_in (List.mem_append_right _ (List.mem_of_getElem? (i := 67) (by decide +kernel))) (by decide +kernel)
theorem tw_68 : (Cond.instanceMethod yX0_init) ∈ lt := lt_in (List.mem_append_right _ (List.mem_of_getElem? (i := 68) (by decide +kernel))) (by decide +kernel)
theorem tw_69 : (Cond.code yX0_init cX0_init 1 none) ∈ lt := lt_in (List.mem_append_right _ (List.mem_of_getElem? (i := 69) (by decide +kernel))) (by decide +kernel)
theorem tw_70 : (Cond.methodLink RX0 3 objectInit) ∈ lt := lt_in (List.mem_append_right _ (List.mem_of_getElem? (i := 70) (by decide +kernel))) (by decide +kernel)
theorem tw_71 : (Cond.classLink RX0 21 "[[J") ∈ lt := lt_in (List.mem_append_right _ (List.mem_of_getElem? (i := 71) (by decide +kernel))) (by decide +kernel)
theorem tw_72 : (Cond.arrayOver (.array .long)) ∈ lt := lt_in (List.mem_append_right _ (List.mem_of_getElem? (i := 72) (by decide +kernel))) (by decide +kernel)
theorem tw_73 : (Cond.fieldLink RX0 9 "ScoreDifferences$History" "objects" "[I") ∈ lt := lt_in (List.mem_append_right _ (List.mem_of_getElem? (i := 73) (by decide +kernel))) (by decide +kernel)
theorem tw_74 : (Cond.fieldLinkNest RX1 135 "ScoreDifferences$History" "objects" "[I" RX6) ∈ lt := lt_in (List.mem_append_right _ (List.mem_of_getElem? (i := 74) (by decide +kernel))) (by decide +kernel)
theorem tw_75 : (Cond.fieldLink RX0 15 "ScoreDifferences$History" "members" "[I") ∈ lt := lt_in (List.mem_append_right _ (List.mem_of_getElem? (i := 75) (by decide +kernel))) (by decide +kernel)
theorem tw_76 : (Cond.fieldLinkNest RX1 138 "ScoreDifferences$History" "members" "[I" RX6) ∈ lt := lt_in (List.mem_append_right _ (List.mem_of_getElem? (i := 76) (by decide +kernel))) (by decide +kernel)
theorem tw_77 : (Cond.fieldLink RX0 18 "ScoreDifferences$History" "numbers" "[I") ∈ lt := lt_in (List.mem_append_right _ (List.mem_of_getElem? (i := 77) (by decide +kernel))) (by decide +kernel)
theorem tw_78 : (Cond.fieldLinkNest RX1 141 "ScoreDifferences$History" "numbers" "[I" RX6) ∈ lt := lt_in (List.mem_append_right _ (List.mem_of_getElem? (i := 78) (by decide +kernel))) (by decide +kernel)
theorem tw_79 : (Cond.fieldLink RX0 23 "ScoreDifferences$History" "keptAt" "[[J") ∈ lt := lt_in (List.mem_append_right _ (List.mem_of_getElem? (i := 79) (by decide +kernel))) (by decide +kernel)
theorem tw_80 : (Cond.fieldLinkNest RX1 144 "ScoreDifferences$History" "keptAt" "[[J" RX6) ∈ lt := lt_in (List.mem_append_right _ (List.mem_of_getElem? (i := 80) (by decide +kernel))) (by decide +kernel)
theorem tw_81 : (Cond.fieldLink RX0 26 "ScoreDifferences$History" "next" "I") ∈ lt := lt_in (List.mem_append_right _ (List.mem_of_getElem? (i := 81) (by decide +kernel))) (by decide +kernel)
theorem tw_82 : (Cond.fieldLink RX0 36 "ScoreDifferences$History" "known" "I") ∈ lt := lt_in (List.mem_append_right _ (List.mem_of_getElem? (i := 82) (by decide +kernel))) (by decide +kernel)
theorem tw_83 : (Cond.fieldLinkNest RX6 122 "ScoreDifferences$History" "known" "I" RX6) ∈ lt := lt_in (List.mem_append_right _ (List.mem_of_getElem? (i := 83) (by decide +kernel))) (by decide +kernel)
theorem tw_84 : (Cond.fieldLinkNest RX1 129 "ScoreDifferences$History" "known" "I" RX6) ∈ lt := lt_in (List.mem_append_right _ (List.mem_of_getElem? (i := 84) (by decide +kernel))) (by decide +kernel)
theorem tw_98 : (Cond.arrayClass .long) ∈ lt := lt_in (List.mem_append_right _ (List.mem_of_getElem? (i := 98) (by decide +kernel))) (by decide +kernel)
theorem tw_99 : (Cond.arrayClass .boolean) ∈ lt := lt_in (List.mem_append_right _ (List.mem_of_getElem? (i := 99) (by decide +kernel))) (by decide +kernel)
theorem tw_100 : (Cond.fieldLink RX1 40 "ScoreDifferences$Plan" "book" "LScoreDifferences$Rulebook;") ∈ lt := lt_in (List.mem_append_right _ (List.mem_of_getElem? (i := 100) (by decide +kernel))) (by decide +kernel)
theorem tw_101 : (Cond.fieldLink RX1 12 "ScoreDifferences$Plan" "now" "LScoreDifferences$Table;") ∈ lt := lt_in (List.mem_append_right _ (List.mem_of_getElem? (i := 101) (by decide +kernel))) (by decide +kernel)
theorem tw_102 : (Cond.fieldLinkNest RX4 22 "ScoreDifferences$Plan" "now" "LScoreDifferences$Table;" RX6) ∈ lt := lt_in (List.mem_append_right _ (List.mem_of_getElem? (i := 102) (by decide +kernel))) (by decide +kernel)
theorem tw_103 : (Cond.fieldLinkNest RX6 39 "ScoreDifferences$Plan" "now" "LScoreDifferences$Table;" RX6) ∈ lt := lt_in (List.mem_append_right _ (List.mem_of_getElem? (i := 103) (by decide +kernel))) (by decide +kernel)
theorem tw_104 : (Cond.fieldLink RX1 18 "ScoreDifferences$Plan" "behind" "LScoreDifferences$Table;") ∈ lt := lt_in (List.mem_append_right _ (List.mem_of_getElem? (i := 104) (by decide +kernel))) (by decide +kernel)
theorem tw_105 : (Cond.fieldLink RX1 21 "ScoreDifferences$Plan" "keptAt" "[J") ∈ lt := lt_in (List.mem_append_right _ (List.mem_of_getElem? (i := 105) (by decide +kernel))) (by decide +kernel)
theorem tw_106 : (Cond.fieldLinkNest RX6 68 "ScoreDifferences$Plan" "keptAt" "[J" RX6) ∈ lt := lt_in (List.mem_append_right _ (List.mem_of_getElem? (i := 106) (by decide +kernel))) (by decide +kernel)
theorem tw_107 : (Cond.fieldLink RX1 25 "ScoreDifferences$Plan" "forgets" "[Z") ∈ lt := lt_in (List.mem_append_right _ (List.mem_of_getElem? (i := 107) (by decide +kernel))) (by decide +kernel)
theorem tw_108 : (Cond.fieldLinkNest RX6 84 "ScoreDifferences$Plan" "forgets" "[Z" RX6) ∈ lt := lt_in (List.mem_append_right _ (List.mem_of_getElem? (i := 108) (by decide +kernel))) (by decide +kernel)
theorem tw_109 : (Cond.fieldLink RX1 32 "ScoreDifferences$Plan" "history" "LScoreDifferences$History;") ∈ lt := lt_in (List.mem_append_right _ (List.mem_of_getElem? (i := 109) (by decide +kernel))) (by decide +kernel)
theorem tw_110 : (Cond.fieldLinkNest RX6 118 "ScoreDifferences$Plan" "history" "LScoreDifferences$History;" RX6) ∈ lt := lt_in (List.mem_append_right _ (List.mem_of_getElem? (i := 110) (by decide +kernel))) (by decide +kernel)
theorem tw_111 : (Cond.fieldLink RX1 122 "ScoreDifferences$Plan" "changes" "I") ∈ lt := lt_in (List.mem_append_right _ (List.mem_of_getElem? (i := 111) (by decide +kernel))) (by decide +kernel)
theorem tw_112 : (Cond.fieldLinkNest RX6 174 "ScoreDifferences$Plan" "changes" "I" RX6) ∈ lt := lt_in (List.mem_append_right _ (List.mem_of_getElem? (i := 112) (by decide +kernel))) (by decide +kernel)
theorem tw_113 : (Cond.fieldLink RX1 156 "ScoreDifferences$Plan" "cost" "I") ∈ lt := lt_in (List.mem_append_right _ (List.mem_of_getElem? (i := 113) (by decide +kernel))) (by decide +kernel)
theorem tw_114 : (Cond.fieldLink RX1 36 "ScoreDifferences$Plan" "foundFalse" "I") ∈ lt := lt_in (List.mem_append_right _ (List.mem_of_getElem? (i := 114) (by decide +kernel))) (by decide +kernel)
theorem tw_115 : (Cond.fieldLinkNest RX6 127 "ScoreDifferences$Plan" "batchBegun" "Z" RX6) ∈ lt := lt_in (List.mem_append_right _ (List.mem_of_getElem? (i := 115) (by decide +kernel))) (by decide +kernel)
theorem tw_116 : (Cond.fieldLink RX1 102 "ScoreDifferences$Plan" "batchBegun" "Z") ∈ lt := lt_in (List.mem_append_right _ (List.mem_of_getElem? (i := 116) (by decide +kernel))) (by decide +kernel)
theorem tw_117 : (Cond.fieldLinkNest RX6 131 "ScoreDifferences$Plan" "batchKnown" "I" RX6) ∈ lt := lt_in (List.mem_append_right _ (List.mem_of_getElem? (i := 117) (by decide +kernel))) (by decide +kernel)
theorem tw_118 : (Cond.fieldLink RX1 106 "ScoreDifferences$Plan" "batchKnown" "I") ∈ lt := lt_in (List.mem_append_right _ (List.mem_of_getElem? (i := 118) (by decide +kernel))) (by decide +kernel)
theorem tw_142 : (Cond.classLink RX6 29 RX4) ∈ lt := lt_in (List.mem_append_right _ (List.mem_of_getElem? (i := 142) (by decide +kernel))) (by decide +kernel)
theorem tw_143 : (Cond.arrayOver (.object RX4)) ∈ lt := lt_in (List.mem_append_right _ (List.mem_of_getElem? (i := 143) (by decide +kernel))) (by decide +kernel)
theorem tw_144 : (Cond.fieldLink RX6 10 "ScoreDifferences" "book" "LScoreDifferences$Rulebook;") ∈ lt := lt_in (List.mem_append_right _ (List.mem_of_getElem? (i := 144) (by decide +kernel))) (by decide +kernel)
theorem tw_145 : (Cond.fieldLink RX6 18 "ScoreDifferences" "plans" "[LScoreDifferences$Plan;") ∈ lt := lt_in (List.mem_append_right _ (List.mem_of_getElem? (i := 145) (by decide +kernel))) (by decide +kernel)
theorem tw_146 : (Cond.fieldLink RX6 31 "ScoreDifferences" "snapshots" "[LScoreDifferences$Snapshot;") ∈ lt := lt_in (List.mem_append_right _ (List.mem_of_getElem? (i := 146) (by decide +kernel))) (by decide +kernel)
theorem tw_147 : (Cond.fieldLink RX6 25 "ScoreDifferences" "planCount" "I") ∈ lt := lt_in (List.mem_append_right _ (List.mem_of_getElem? (i := 147) (by decide +kernel))) (by decide +kernel)
theorem tw_148 : (Cond.fieldLink RX6 155 "ScoreDifferences" "snapshotCount" "I") ∈ lt := lt_in (List.mem_append_right _ (List.mem_of_getElem? (i := 148) (by decide +kernel))) (by decide +kernel)
theorem tw_149 : (Cond.fieldLink RX6 96 "ScoreDifferences" "checkEvery" "I") ∈ lt := lt_in (List.mem_append_right _ (List.mem_of_getElem? (i := 149) (by decide +kernel))) (by decide +kernel)
theorem tw_163 : (Cond.methodLink RL 13 yX6_object) ∈ lt := lt_in (List.mem_append_right _ (List.mem_of_getElem? (i := 163) (by decide +kernel))) (by decide +kernel)
theorem tw_164 : (Cond.instanceMethod yX6_object) ∈ lt := lt_in (List.mem_append_right _ (List.mem_of_getElem? (i := 164) (by decide +kernel))) (by decide +kernel)
theorem tw_165 : (Cond.selects RX6 yX6_object yX6_object) ∈ lt := lt_in (List.mem_append_right _ (List.mem_of_getElem? (i := 165) (by decide +kernel))) (by decide +kernel)
theorem tw_166 : (Cond.code yX6_object cX6_object 1 (some .int)) ∈ lt := lt_in (List.mem_append_right _ (List.mem_of_getElem? (i := 166) (by decide +kernel))) (by decide +kernel)
theorem tw_167 : (Cond.methodLink RX6 35 yX6_isSettled) ∈ lt := lt_in (List.mem_append_right _ (List.mem_of_getElem? (i := 167) (by decide +kernel))) (by decide +kernel)
theorem tw_169 : (Cond.instanceMethod yX6_isSettled) ∈ lt := lt_in (List.mem_append_right _ (List.mem_of_getElem? (i := 169) (by decide +kernel))) (by decide +kernel)
theorem tw_170 : (Cond.code yX6_isSettled cX6_isSettled 1 (some .boolean)) ∈ lt := lt_in (List.mem_append_right _ (List.mem_of_getElem? (i := 170) (by decide +kernel))) (by decide +kernel)
theorem tw_171 : (Cond.methodLink RX6 48 yX1_addObject) ∈ lt := lt_in (List.mem_append_right _ (List.mem_of_getElem? (i := 171) (by decide +kernel))) (by decide +kernel)
theorem tw_172 : (Cond.instanceMethod yX1_addObject) ∈ lt := lt_in (List.mem_append_right _ (List.mem_of_getElem? (i := 172) (by decide +kernel))) (by decide +kernel)
theorem tw_173 : (Cond.selects RX1 yX1_addObject yX1_addObject) ∈ lt := lt_in (List.mem_append_right _ (List.mem_of_getElem? (i := 173) (by decide +kernel))) (by decide +kernel)
theorem tw_174 : (Cond.code yX1_addObject cX1_addObject 2 (some .int)) ∈ lt := lt_in (List.mem_append_right _ (List.mem_of_getElem? (i := 174) (by decide +kernel))) (by decide +kernel)
theorem tw_175 : (Cond.methodLink RX1 44 yX5_becomeLike) ∈ lt := lt_in (List.mem_append_right _ (List.mem_of_getElem? (i := 175) (by decide +kernel))) (by decide +kernel)
theorem tw_176 : (Cond.instanceMethod yX5_becomeLike) ∈ lt := lt_in (List.mem_append_right _ (List.mem_of_getElem? (i := 176) (by decide +kernel))) (by decide +kernel)
theorem tw_177 : (Cond.selects RX5 yX5_becomeLike yX5_becomeLike) ∈ lt := lt_in (List.mem_append_right _ (List.mem_of_getElem? (i := 177) (by decide +kernel))) (by decide +kernel)
theorem tw_178 : (Cond.code yX5_becomeLike cX5_becomeLike 3 none) ∈ lt := lt_in (List.mem_append_right _ (List.mem_of_getElem? (i := 178) (by decide +kernel))) (by decide +kernel)
theorem tw_179 : (Cond.methodLink RX5 29 arraycopyName) ∈ lt := lt_in (List.mem_append_right _ (List.mem_of_getElem? (i := 179) (by decide +kernel))) (by decide +kernel)
theorem tw_180 : (Cond.static arraycopyName) ∈ lt := lt_in (List.mem_append_right _ (List.mem_of_getElem? (i := 180) (by decide +kernel))) (by decide +kernel)
theorem tw_181 : (Cond.native arraycopyName) ∈ lt := lt_in (List.mem_append_right _ (List.mem_of_getElem? (i := 181) (by decide +kernel))) (by decide +kernel)
theorem tw_182 : (Cond.methodLink RX1 53 yX5_addObject) ∈ lt := lt_in (List.mem_append_right _ (List.mem_of_getElem? (i := 182) (by decide +kernel))) (by decide +kernel)
theorem tw_183 : (Cond.instanceMethod yX5_addObject) ∈ lt := lt_in (List.mem_append_right _ (List.mem_of_getElem? (i := 183) (by decide +kernel))) (by decide +kernel)
theorem tw_184 : (Cond.selects RX5 yX5_addObject yX5_addObject) ∈ lt := lt_in (List.mem_append_right _ (List.mem_of_getElem? (i := 184) (by decide +kernel))) (by decide +kernel)
theorem tw_185 : (Cond.code yX5_addObject cX5_addObject 1 none) ∈ lt := lt_in (List.mem_append_right _ (List.mem_of_getElem? (i := 185) (by decide +kernel))) (by decide +kernel)
theorem tw_186 : (Cond.methodLink RX1 56 yX1_gain) ∈ lt := lt_in (List.mem_append_right _ (List.mem_of_getElem? (i := 186) (by decide +kernel))) (by decide +kernel)
theorem tw_188 : (Cond.instanceMethod yX1_gain) ∈ lt := lt_in (List.mem_append_right _ (List.mem_of_getElem? (i := 188) (by decide +kernel))) (by decide +kernel)
theorem tw_189 : (Cond.code yX1_gain cX1_gain 2 (some .long)) ∈ lt := lt_in (List.mem_append_right _ (List.mem_of_getElem? (i := 189) (by decide +kernel))) (by decide +kernel)
theorem tw_190 : (Cond.methodLink RX1 67 yX2_fromNothing) ∈ lt := lt_in (List.mem_append_right _ (List.mem_of_getElem? (i := 190) (by decide +kernel))) (by decide +kernel)
theorem tw_191 : (Cond.instanceMethod yX2_fromNothing) ∈ lt := lt_in (List.mem_append_right _ (List.mem_of_getElem? (i := 191) (by decide +kernel))) (by decide +kernel)
theorem tw_192 : (Cond.selects RX2 yX2_fromNothing yX2_fromNothing) ∈ lt := lt_in (List.mem_append_right _ (List.mem_of_getElem? (i := 192) (by decide +kernel))) (by decide +kernel)
theorem tw_193 : (Cond.code yX2_fromNothing cX2_fromNothing 4 (some .long)) ∈ lt := lt_in (List.mem_append_right _ (List.mem_of_getElem? (i := 193) (by decide +kernel))) (by decide +kernel)
theorem tw_194 : (Cond.methodLink RX2 36 yX2_eachAbove) ∈ lt := lt_in (List.mem_append_right _ (List.mem_of_getElem? (i := 194) (by decide +kernel))) (by decide +kernel)
theorem tw_196 : (Cond.instanceMethod yX2_eachAbove) ∈ lt := lt_in (List.mem_append_right _ (List.mem_of_getElem? (i := 196) (by decide +kernel))) (by decide +kernel)
theorem tw_197 : (Cond.instantiable RX2 5) ∈ lt := lt_in (List.mem_append_right _ (List.mem_of_getElem? (i := 197) (by decide +kernel))) (by decide +kernel)
theorem tw_198 : (Cond.code yX2_eachAbove cX2_eachAbove 6 (some .long)) ∈ lt := lt_in (List.mem_append_right _ (List.mem_of_getElem? (i := 198) (by decide +kernel))) (by decide +kernel)
theorem tw_199 : (Cond.methodLink RX2 63 Lib.Math.max.name) ∈ lt := lt_in (List.mem_append_right _ (List.mem_of_getElem? (i := 199) (by decide +kernel))) (by decide +kernel)
theorem tw_200 : (Cond.static Lib.Math.max.name) ∈ lt := lt_in (List.mem_append_right _ (List.mem_of_getElem? (i := 200) (by decide +kernel))) (by decide +kernel)
theorem tw_201 : (Cond.code Lib.Math.max.name Lib.Math.max.code 2 (some .int)) ∈ lt := lt_in (List.mem_append_right _ (List.mem_of_getElem? (i := 201) (by decide +kernel))) (by decide +kernel)
theorem tw_202 : (Cond.methodLink RX2 40 yX2_sum) ∈ lt := lt_in (List.mem_append_right _ (List.mem_of_getElem? (i := 202) (by decide +kernel))) (by decide +kernel)
theorem tw_203 : (Cond.static yX2_sum) ∈ lt := lt_in (List.mem_append_right _ (List.mem_of_getElem? (i := 203) (by decide +kernel))) (by decide +kernel)
theorem tw_204 : (Cond.code yX2_sum cX2_sum 5 (some .long)) ∈ lt := lt_in (List.mem_append_right _ (List.mem_of_getElem? (i := 204) (by decide +kernel))) (by decide +kernel)
theorem tw_205 : (Cond.methodLink RX2 43 Lib.MathLoose.max_long.x) ∈ lt := lt_in (List.mem_append_right _ (List.mem_of_getElem? (i := 205) (by decide +kernel))) (by decide +kernel)
theorem tw_206 : (Cond.static Lib.MathLoose.max_long.x) ∈ lt := lt_in (List.mem_append_right _ (List.mem_of_getElem? (i := 206) (by decide +kernel))) (by decide +kernel)
theorem tw_207 : (Cond.code Lib.MathLoose.max_long.x Lib.MathLoose.max_long.code 4 (some .long)) ∈ lt := lt_in (List.mem_append_right _ (List.mem_of_getElem? (i := 207) (by decide +kernel))) (by decide +kernel)
theorem tw_208 : (Cond.methodLink RX2 49 Lib.MathLoose.abs_long.x) ∈ lt := lt_in (List.mem_append_right _ (List.mem_of_getElem? (i := 208) (by decide +kernel))) (by decide +kernel)
theorem tw_209 : (Cond.static Lib.MathLoose.abs_long.x) ∈ lt := lt_in (List.mem_append_right _ (List.mem_of_getElem? (i := 209) (by decide +kernel))) (by decide +kernel)
theorem tw_210 : (Cond.code Lib.MathLoose.abs_long.x Lib.MathLoose.abs_long.code 2 (some .long)) ∈ lt := lt_in (List.mem_append_right _ (List.mem_of_getElem? (i := 210) (by decide +kernel))) (by decide +kernel)
theorem tw_211 : (Cond.methodLink RX2 53 yX2_equalPairs) ∈ lt := lt_in (List.mem_append_right _ (List.mem_of_getElem? (i := 211) (by decide +kernel))) (by decide +kernel)
theorem tw_212 : (Cond.static yX2_equalPairs) ∈ lt := lt_in (List.mem_append_right _ (List.mem_of_getElem? (i := 212) (by decide +kernel))) (by decide +kernel)
theorem tw_213 : (Cond.code yX2_equalPairs cX2_equalPairs 5 (some .long)) ∈ lt := lt_in (List.mem_append_right _ (List.mem_of_getElem? (i := 213) (by decide +kernel))) (by decide +kernel)
theorem tw_214 : (Cond.methodLink RX2 66 yX2_countOf) ∈ lt := lt_in (List.mem_append_right _ (List.mem_of_getElem? (i := 214) (by decide +kernel))) (by decide +kernel)
theorem tw_215 : (Cond.static yX2_countOf) ∈ lt := lt_in (List.mem_append_right _ (List.mem_of_getElem? (i := 215) (by decide +kernel))) (by decide +kernel)
theorem tw_216 : (Cond.code yX2_countOf cX2_countOf 6 (some .int)) ∈ lt := lt_in (List.mem_append_right _ (List.mem_of_getElem? (i := 216) (by decide +kernel))) (by decide +kernel)
theorem tw_217 : (Cond.methodLink RX2 56 yX2_crowds) ∈ lt := lt_in (List.mem_append_right _ (List.mem_of_getElem? (i := 217) (by decide +kernel))) (by decide +kernel)
theorem tw_219 : (Cond.instanceMethod yX2_crowds) ∈ lt := lt_in (List.mem_append_right _ (List.mem_of_getElem? (i := 219) (by decide +kernel))) (by decide +kernel)
theorem tw_220 : (Cond.code yX2_crowds cX2_crowds 8 (some .long)) ∈ lt := lt_in (List.mem_append_right _ (List.mem_of_getElem? (i := 220) (by decide +kernel))) (by decide +kernel)
theorem tw_221 : (Cond.methodLink RX2 59 yX2_lessThanBefore) ∈ lt := lt_in (List.mem_append_right _ (List.mem_of_getElem? (i := 221) (by decide +kernel))) (by decide +kernel)
theorem tw_222 : (Cond.static yX2_lessThanBefore) ∈ lt := lt_in (List.mem_append_right _ (List.mem_of_getElem? (i := 222) (by decide +kernel))) (by decide +kernel)
theorem tw_223 : (Cond.code yX2_lessThanBefore cX2_lessThanBefore 6 (some .long)) ∈ lt := lt_in (List.mem_append_right _ (List.mem_of_getElem? (i := 223) (by decide +kernel))) (by decide +kernel)
theorem tw_224 : (Cond.methodLink RX2 70 yX5_has) ∈ lt := lt_in (List.mem_append_right _ (List.mem_of_getElem? (i := 224) (by decide +kernel))) (by decide +kernel)
theorem tw_225 : (Cond.instanceMethod yX5_has) ∈ lt := lt_in (List.mem_append_right _ (List.mem_of_getElem? (i := 225) (by decide +kernel))) (by decide +kernel)
theorem tw_226 : (Cond.selects RX5 yX5_has yX5_has) ∈ lt := lt_in (List.mem_append_right _ (List.mem_of_getElem? (i := 226) (by decide +kernel))) (by decide +kernel)
theorem tw_227 : (Cond.code yX5_has cX5_has 2 (some .boolean)) ∈ lt := lt_in (List.mem_append_right _ (List.mem_of_getElem? (i := 227) (by decide +kernel))) (by decide +kernel)
theorem tw_228 : (Cond.methodLinkNest RX2 74 yX6_oneIf RX6) ∈ lt := lt_in (List.mem_append_right _ (List.mem_of_getElem? (i := 228) (by decide +kernel))) (by decide +kernel)
theorem tw_229 : (Cond.static yX6_oneIf) ∈ lt := lt_in (List.mem_append_right _ (List.mem_of_getElem? (i := 229) (by decide +kernel))) (by decide +kernel)
theorem tw_230 : (Cond.code yX6_oneIf cX6_oneIf 1 (some .int)) ∈ lt := lt_in (List.mem_append_right _ (List.mem_of_getElem? (i := 230) (by decide +kernel))) (by decide +kernel)
theorem tw_231 : (Cond.methodLink RL 18 yX6_rule) ∈ lt := lt_in (List.mem_append_right _ (List.mem_of_getElem? (i := 231) (by decide +kernel))) (by decide +kernel)
theorem tw_232 : (Cond.instanceMethod yX6_rule) ∈ lt := lt_in (List.mem_append_right _ (List.mem_of_getElem? (i := 232) (by decide +kernel))) (by decide +kernel)
theorem tw_233 : (Cond.selects RX6 yX6_rule yX6_rule) ∈ lt := lt_in (List.mem_append_right _ (List.mem_of_getElem? (i := 233) (by decide +kernel))) (by decide +kernel)
theorem tw_234 : (Cond.code yX6_rule cX6_rule 7 (some .int)) ∈ lt := lt_in (List.mem_append_right _ (List.mem_of_getElem? (i := 234) (by decide +kernel))) (by decide +kernel)
theorem tw_235 : (Cond.methodLink RX6 52 yX6_isRule) ∈ lt := lt_in (List.mem_append_right _ (List.mem_of_getElem? (i := 235) (by decide +kernel))) (by decide +kernel)
theorem tw_236 : (Cond.static yX6_isRule) ∈ lt := lt_in (List.mem_append_right _ (List.mem_of_getElem? (i := 236) (by decide +kernel))) (by decide +kernel)
theorem tw_237 : (Cond.code yX6_isRule cX6_isRule 5 (some .boolean)) ∈ lt := lt_in (List.mem_append_right _ (List.mem_of_getElem? (i := 237) (by decide +kernel))) (by decide +kernel)
theorem tw_238 : (Cond.methodLink RX6 145 yX6_within) ∈ lt := lt_in (List.mem_append_right _ (List.mem_of_getElem? (i := 238) (by decide +kernel))) (by decide +kernel)
theorem tw_239 : (Cond.static yX6_within) ∈ lt := lt_in (List.mem_append_right _ (List.mem_of_getElem? (i := 239) (by decide +kernel))) (by decide +kernel)
theorem tw_240 : (Cond.code yX6_within cX6_within 3 (some .boolean)) ∈ lt := lt_in (List.mem_append_right _ (List.mem_of_getElem? (i := 240) (by decide +kernel))) (by decide +kernel)
theorem tw_241 : (Cond.constant RX6 137 (-1000000)) ∈ lt := lt_in (List.mem_append_right _ (List.mem_of_getElem? (i := 241) (by decide +kernel))) (by decide +kernel)
theorem tw_242 : (Cond.constant RX6 177 (1000000)) ∈ lt := lt_in (List.mem_append_right _ (List.mem_of_getElem? (i := 242) (by decide +kernel))) (by decide +kernel)
theorem tw_243 : (Cond.methodLink RX6 103 yX6_isLevel) ∈ lt := lt_in (List.mem_append_right _ (List.mem_of_getElem? (i := 243) (by decide +kernel))) (by decide +kernel)
theorem tw_244 : (Cond.static yX6_isLevel) ∈ lt := lt_in (List.mem_append_right _ (List.mem_of_getElem? (i := 244) (by decide +kernel))) (by decide +kernel)
theorem tw_245 : (Cond.code yX6_isLevel cX6_isLevel 1 (some .boolean)) ∈ lt := lt_in (List.mem_append_right _ (List.mem_of_getElem? (i := 245) (by decide +kernel))) (by decide +kernel)
theorem tw_246 : (Cond.classLink RX6 59 RX2) ∈ lt := lt_in (List.mem_append_right _ (List.mem_of_getElem? (i := 246) (by decide +kernel))) (by decide +kernel)
theorem tw_247 : (Cond.methodLink RX6 61 yX2_init) ∈ lt := lt_in (List.mem_append_right _ (List.mem_of_getElem? (i := 247) (by decide +kernel))) (by decide +kernel)
theorem tw_248 : (Cond.instanceMethod yX2_init) ∈ lt := lt_in (List.mem_append_right _ (List.mem_of_getElem? (i := 248) (by decide +kernel))) (by decide +kernel)
theorem tw_249 : (Cond.code yX2_init cX2_init 6 none) ∈ lt := lt_in (List.mem_append_right _ (List.mem_of_getElem? (i := 249) (by decide +kernel))) (by decide +kernel)
theorem tw_250 : (Cond.methodLink RX2 3 objectInit) ∈ lt := lt_in (List.mem_append_right _ (List.mem_of_getElem? (i := 250) (by decide +kernel))) (by decide +kernel)
theorem tw_251 : (Cond.fieldLink RX2 9 "ScoreDifferences$Rule" "kind" "I") ∈ lt := lt_in (List.mem_append_right _ (List.mem_of_getElem? (i := 251) (by decide +kernel))) (by decide +kernel)
theorem tw_252 : (Cond.fieldLink RX2 15 "ScoreDifferences$Rule" "looksAt" "I") ∈ lt := lt_in (List.mem_append_right _ (List.mem_of_getElem? (i := 252) (by decide +kernel))) (by decide +kernel)
theorem tw_253 : (Cond.fieldLink RX2 18 "ScoreDifferences$Rule" "bound" "I") ∈ lt := lt_in (List.mem_append_right _ (List.mem_of_getElem? (i := 253) (by decide +kernel))) (by decide +kernel)
theorem tw_254 : (Cond.fieldLink RX2 21 "ScoreDifferences$Rule" "weight" "I") ∈ lt := lt_in (List.mem_append_right _ (List.mem_of_getElem? (i := 254) (by decide +kernel))) (by decide +kernel)
theorem tw_255 : (Cond.fieldLink RX2 24 "ScoreDifferences$Rule" "level" "I") ∈ lt := lt_in (List.mem_append_right _ (List.mem_of_getElem? (i := 255) (by decide +kernel))) (by decide +kernel)
theorem tw_256 : (Cond.fieldLinkNest RX1 77 "ScoreDifferences$Rule" "level" "I" RX6) ∈ lt := lt_in (List.mem_append_right _ (List.mem_of_getElem? (i := 256) (by decide +kernel))) (by decide +kernel)
theorem tw_268 : (Cond.methodLink RX6 64 yX3_add) ∈ lt := lt_in (List.mem_append_right _ (List.mem_of_getElem? (i := 268) (by decide +kernel))) (by decide +kernel)
theorem tw_269 : (Cond.instanceMethod yX3_add) ∈ lt := lt_in (List.mem_append_right _ (List.mem_of_getElem? (i := 269) (by decide +kernel))) (by decide +kernel)
theorem tw_270 : (Cond.selects RX3 yX3_add yX3_add) ∈ lt := lt_in (List.mem_append_right _ (List.mem_of_getElem? (i := 270) (by decide +kernel))) (by decide +kernel)
theorem tw_271 : (Cond.code yX3_add cX3_add 2 (some .int)) ∈ lt := lt_in (List.mem_append_right _ (List.mem_of_getElem? (i := 271) (by decide +kernel))) (by decide +kernel)
theorem tw_272 : (Cond.methodLink RX6 72 yX1_fromNothing) ∈ lt := lt_in (List.mem_append_right _ (List.mem_of_getElem? (i := 272) (by decide +kernel))) (by decide +kernel)
theorem tw_273 : (Cond.instanceMethod yX1_fromNothing) ∈ lt := lt_in (List.mem_append_right _ (List.mem_of_getElem? (i := 273) (by decide +kernel))) (by decide +kernel)
theorem tw_274 : (Cond.selects RX1 yX1_fromNothing yX1_fromNothing) ∈ lt := lt_in (List.mem_append_right _ (List.mem_of_getElem? (i := 274) (by decide +kernel))) (by decide +kernel)
theorem tw_275 : (Cond.code yX1_fromNothing cX1_fromNothing 2 (some .long)) ∈ lt := lt_in (List.mem_append_right _ (List.mem_of_getElem? (i := 275) (by decide +kernel))) (by decide +kernel)
theorem tw_276 : (Cond.methodLink RL 23 yX6_forget) ∈ lt := lt_in (List.mem_append_right _ (List.mem_of_getElem? (i := 276) (by decide +kernel))) (by decide +kernel)
theorem tw_277 : (Cond.instanceMethod yX6_forget) ∈ lt := lt_in (List.mem_append_right _ (List.mem_of_getElem? (i := 277) (by decide +kernel))) (by decide +kernel)
theorem tw_278 : (Cond.selects RX6 yX6_forget yX6_forget) ∈ lt := lt_in (List.mem_append_right _ (List.mem_of_getElem? (i := 278) (by decide +kernel))) (by decide +kernel)
theorem tw_279 : (Cond.code yX6_forget cX6_forget 6 (some .int)) ∈ lt := lt_in (List.mem_append_right _ (List.mem_of_getElem? (i := 279) (by decide +kernel))) (by decide +kernel)
theorem tw_280 : (Cond.methodLink RX6 76 yX6_planAt) ∈ lt := lt_in (List.mem_append_right _ (List.mem_of_getElem? (i := 280) (by decide +kernel))) (by decide +kernel)
theorem tw_282 : (Cond.instanceMethod yX6_planAt) ∈ lt := lt_in (List.mem_append_right _ (List.mem_of_getElem? (i := 282) (by decide +kernel))) (by decide +kernel)
theorem tw_283 : (Cond.code yX6_planAt cX6_planAt 2 (some (.object "ScoreDifferences$Plan"))) ∈ lt := lt_in (List.mem_append_right _ (List.mem_of_getElem? (i := 283) (by decide +kernel))) (by decide +kernel)
theorem tw_284 : (Cond.methodLink RX6 80 yX3_has) ∈ lt := lt_in (List.mem_append_right _ (List.mem_of_getElem? (i := 284) (by decide +kernel))) (by decide +kernel)
theorem tw_285 : (Cond.instanceMethod yX3_has) ∈ lt := lt_in (List.mem_append_right _ (List.mem_of_getElem? (i := 285) (by decide +kernel))) (by decide +kernel)
theorem tw_286 : (Cond.selects RX3 yX3_has yX3_has) ∈ lt := lt_in (List.mem_append_right _ (List.mem_of_getElem? (i := 286) (by decide +kernel))) (by decide +kernel)
theorem tw_287 : (Cond.code yX3_has cX3_has 2 (some .boolean)) ∈ lt := lt_in (List.mem_append_right _ (List.mem_of_getElem? (i := 287) (by decide +kernel))) (by decide +kernel)
theorem tw_288 : (Cond.methodLink RX6 88 yX6_oneIf) ∈ lt := lt_in (List.mem_append_right _ (List.mem_of_getElem? (i := 288) (by decide +kernel))) (by decide +kernel)
theorem tw_289 : (Cond.methodLink RL 28 yX6_fork) ∈ lt := lt_in (List.mem_append_right _ (List.mem_of_getElem? (i := 289) (by decide +kernel))) (by decide +kernel)
theorem tw_290 : (Cond.instanceMethod yX6_fork) ∈ lt := lt_in (List.mem_append_right _ (List.mem_of_getElem? (i := 290) (by decide +kernel))) (by decide +kernel)
theorem tw_291 : (Cond.selects RX6 yX6_fork yX6_fork) ∈ lt := lt_in (List.mem_append_right _ (List.mem_of_getElem? (i := 291) (by decide +kernel))) (by decide +kernel)
theorem tw_292 : (Cond.code yX6_fork cX6_fork 4 (some .int)) ∈ lt := lt_in (List.mem_append_right _ (List.mem_of_getElem? (i := 292) (by decide +kernel))) (by decide +kernel)
theorem tw_293 : (Cond.methodLink RX6 92 yX1_becomeLike) ∈ lt := lt_in (List.mem_append_right _ (List.mem_of_getElem? (i := 293) (by decide +kernel))) (by decide +kernel)
theorem tw_294 : (Cond.instanceMethod yX1_becomeLike) ∈ lt := lt_in (List.mem_append_right _ (List.mem_of_getElem? (i := 294) (by decide +kernel))) (by decide +kernel)
theorem tw_295 : (Cond.selects RX1 yX1_becomeLike yX1_becomeLike) ∈ lt := lt_in (List.mem_append_right _ (List.mem_of_getElem? (i := 295) (by decide +kernel))) (by decide +kernel)
theorem tw_296 : (Cond.code yX1_becomeLike cX1_becomeLike 3 none) ∈ lt := lt_in (List.mem_append_right _ (List.mem_of_getElem? (i := 296) (by decide +kernel))) (by decide +kernel)
theorem tw_297 : (Cond.methodLink RL 33 yX6_change) ∈ lt := lt_in (List.mem_append_right _ (List.mem_of_getElem? (i := 297) (by decide +kernel))) (by decide +kernel)
theorem tw_298 : (Cond.instanceMethod yX6_change) ∈ lt := lt_in (List.mem_append_right _ (List.mem_of_getElem? (i := 298) (by decide +kernel))) (by decide +kernel)
theorem tw_299 : (Cond.selects RX6 yX6_change yX6_change) ∈ lt := lt_in (List.mem_append_right _ (List.mem_of_getElem? (i := 299) (by decide +kernel))) (by decide +kernel)
theorem tw_300 : (Cond.code yX6_change cX6_change 6 (some .int)) ∈ lt := lt_in (List.mem_append_right _ (List.mem_of_getElem? (i := 300) (by decide +kernel))) (by decide +kernel)
theorem tw_301 : (Cond.methodLink RX6 99 yX1_makeChange) ∈ lt := lt_in (List.mem_append_right _ (List.mem_of_getElem? (i := 301) (by decide +kernel))) (by decide +kernel)
theorem tw_302 : (Cond.instanceMethod yX1_makeChange) ∈ lt := lt_in (List.mem_append_right _ (List.mem_of_getElem? (i := 302) (by decide +kernel))) (by decide +kernel)
theorem tw_303 : (Cond.selects RX1 yX1_makeChange yX1_makeChange) ∈ lt := lt_in (List.mem_append_right _ (List.mem_of_getElem? (i := 303) (by decide +kernel))) (by decide +kernel)
theorem tw_304 : (Cond.code yX1_makeChange cX1_makeChange 6 (some .int)) ∈ lt := lt_in (List.mem_append_right _ (List.mem_of_getElem? (i := 304) (by decide +kernel))) (by decide +kernel)
theorem tw_305 : (Cond.methodLink RX1 83 yX5_takes) ∈ lt := lt_in (List.mem_append_right _ (List.mem_of_getElem? (i := 305) (by decide +kernel))) (by decide +kernel)
theorem tw_306 : (Cond.instanceMethod yX5_takes) ∈ lt := lt_in (List.mem_append_right _ (List.mem_of_getElem? (i := 306) (by decide +kernel))) (by decide +kernel)
theorem tw_307 : (Cond.selects RX5 yX5_takes yX5_takes) ∈ lt := lt_in (List.mem_append_right _ (List.mem_of_getElem? (i := 307) (by decide +kernel))) (by decide +kernel)
theorem tw_308 : (Cond.code yX5_takes cX5_takes 4 (some .boolean)) ∈ lt := lt_in (List.mem_append_right _ (List.mem_of_getElem? (i := 308) (by decide +kernel))) (by decide +kernel)
theorem tw_309 : (Cond.methodLink RX5 20 yX5_has) ∈ lt := lt_in (List.mem_append_right _ (List.mem_of_getElem? (i := 309) (by decide +kernel))) (by decide +kernel)
theorem tw_310 : (Cond.methodLinkNest RX5 24 yX6_within RX6) ∈ lt := lt_in (List.mem_append_right _ (List.mem_of_getElem? (i := 310) (by decide +kernel))) (by decide +kernel)
theorem tw_311 : (Cond.methodLink RX5 35 yX5_leads) ∈ lt := lt_in (List.mem_append_right _ (List.mem_of_getElem? (i := 311) (by decide +kernel))) (by decide +kernel)
theorem tw_313 : (Cond.instanceMethod yX5_leads) ∈ lt := lt_in (List.mem_append_right _ (List.mem_of_getElem? (i := 313) (by decide +kernel))) (by decide +kernel)
theorem tw_314 : (Cond.code yX5_leads cX5_leads 5 (some .boolean)) ∈ lt := lt_in (List.mem_append_right _ (List.mem_of_getElem? (i := 314) (by decide +kernel))) (by decide +kernel)
theorem tw_315 : (Cond.methodLink RX1 98 yX0_push) ∈ lt := lt_in (List.mem_append_right _ (List.mem_of_getElem? (i := 315) (by decide +kernel))) (by decide +kernel)
theorem tw_316 : (Cond.instanceMethod yX0_push) ∈ lt := lt_in (List.mem_append_right _ (List.mem_of_getElem? (i := 316) (by decide +kernel))) (by decide +kernel)
theorem tw_317 : (Cond.selects RX0 yX0_push yX0_push) ∈ lt := lt_in (List.mem_append_right _ (List.mem_of_getElem? (i := 317) (by decide +kernel))) (by decide +kernel)
theorem tw_318 : (Cond.code yX0_push cX0_push 5 none) ∈ lt := lt_in (List.mem_append_right _ (List.mem_of_getElem? (i := 318) (by decide +kernel))) (by decide +kernel)
theorem tw_319 : (Cond.methodLink RX0 30 arraycopyName) ∈ lt := lt_in (List.mem_append_right _ (List.mem_of_getElem? (i := 319) (by decide +kernel))) (by decide +kernel)
theorem tw_320 : (Cond.methodLink RX0 39 Lib.Math.min.name) ∈ lt := lt_in (List.mem_append_right _ (List.mem_of_getElem? (i := 320) (by decide +kernel))) (by decide +kernel)
theorem tw_321 : (Cond.static Lib.Math.min.name) ∈ lt := lt_in (List.mem_append_right _ (List.mem_of_getElem? (i := 321) (by decide +kernel))) (by decide +kernel)
theorem tw_322 : (Cond.code Lib.Math.min.name Lib.Math.min.code 2 (some .int)) ∈ lt := lt_in (List.mem_append_right _ (List.mem_of_getElem? (i := 322) (by decide +kernel))) (by decide +kernel)
theorem tw_323 : (Cond.methodLink RX1 109 Lib.Math.min.name) ∈ lt := lt_in (List.mem_append_right _ (List.mem_of_getElem? (i := 323) (by decide +kernel))) (by decide +kernel)
theorem tw_324 : (Cond.methodLink RX1 87 yX1_layOut) ∈ lt := lt_in (List.mem_append_right _ (List.mem_of_getElem? (i := 324) (by decide +kernel))) (by decide +kernel)
theorem tw_326 : (Cond.instanceMethod yX1_layOut) ∈ lt := lt_in (List.mem_append_right _ (List.mem_of_getElem? (i := 326) (by decide +kernel))) (by decide +kernel)
theorem tw_327 : (Cond.code yX1_layOut cX1_layOut 4 none) ∈ lt := lt_in (List.mem_append_right _ (List.mem_of_getElem? (i := 327) (by decide +kernel))) (by decide +kernel)
theorem tw_328 : (Cond.methodLink RX1 166 yX5_put) ∈ lt := lt_in (List.mem_append_right _ (List.mem_of_getElem? (i := 328) (by decide +kernel))) (by decide +kernel)
theorem tw_329 : (Cond.instanceMethod yX5_put) ∈ lt := lt_in (List.mem_append_right _ (List.mem_of_getElem? (i := 329) (by decide +kernel))) (by decide +kernel)
theorem tw_330 : (Cond.selects RX5 yX5_put yX5_put) ∈ lt := lt_in (List.mem_append_right _ (List.mem_of_getElem? (i := 330) (by decide +kernel))) (by decide +kernel)
theorem tw_331 : (Cond.code yX5_put cX5_put 8 none) ∈ lt := lt_in (List.mem_append_right _ (List.mem_of_getElem? (i := 331) (by decide +kernel))) (by decide +kernel)
theorem tw_332 : (Cond.methodLink RX1 91 yX1_gainUnlessForgotten) ∈ lt := lt_in (List.mem_append_right _ (List.mem_of_getElem? (i := 332) (by decide +kernel))) (by decide +kernel)
theorem tw_334 : (Cond.instanceMethod yX1_gainUnlessForgotten) ∈ lt := lt_in (List.mem_append_right _ (List.mem_of_getElem? (i := 334) (by decide +kernel))) (by decide +kernel)
theorem tw_335 : (Cond.code yX1_gainUnlessForgotten cX1_gainUnlessForgotten 3 (some .long)) ∈ lt := lt_in (List.mem_append_right _ (List.mem_of_getElem? (i := 335) (by decide +kernel))) (by decide +kernel)
theorem tw_336 : (Cond.methodLink RX1 169 yX2_countTouched) ∈ lt := lt_in (List.mem_append_right _ (List.mem_of_getElem? (i := 336) (by decide +kernel))) (by decide +kernel)
theorem tw_337 : (Cond.instanceMethod yX2_countTouched) ∈ lt := lt_in (List.mem_append_right _ (List.mem_of_getElem? (i := 337) (by decide +kernel))) (by decide +kernel)
theorem tw_338 : (Cond.selects RX2 yX2_countTouched yX2_countTouched) ∈ lt := lt_in (List.mem_append_right _ (List.mem_of_getElem? (i := 338) (by decide +kernel))) (by decide +kernel)
theorem tw_339 : (Cond.code yX2_countTouched cX2_countTouched 7 (some .int)) ∈ lt := lt_in (List.mem_append_right _ (List.mem_of_getElem? (i := 339) (by decide +kernel))) (by decide +kernel)
theorem tw_340 : (Cond.methodLink RX1 115 yX5_countOther) ∈ lt := lt_in (List.mem_append_right _ (List.mem_of_getElem? (i := 340) (by decide +kernel))) (by decide +kernel)
theorem tw_341 : (Cond.instanceMethod yX5_countOther) ∈ lt := lt_in (List.mem_append_right _ (List.mem_of_getElem? (i := 341) (by decide +kernel))) (by decide +kernel)
theorem tw_342 : (Cond.selects RX5 yX5_countOther yX5_countOther) ∈ lt := lt_in (List.mem_append_right _ (List.mem_of_getElem? (i := 342) (by decide +kernel))) (by decide +kernel)
theorem tw_343 : (Cond.code yX5_countOther cX5_countOther 5 (some .int)) ∈ lt := lt_in (List.mem_append_right _ (List.mem_of_getElem? (i := 343) (by decide +kernel))) (by decide +kernel)
theorem tw_344 : (Cond.methodLinkNest RX5 39 yX6_oneIf RX6) ∈ lt := lt_in (List.mem_append_right _ (List.mem_of_getElem? (i := 344) (by decide +kernel))) (by decide +kernel)
theorem tw_345 : (Cond.methodLink RX1 119 yX1_moveOn) ∈ lt := lt_in (List.mem_append_right _ (List.mem_of_getElem? (i := 345) (by decide +kernel))) (by decide +kernel)
theorem tw_347 : (Cond.instanceMethod yX1_moveOn) ∈ lt := lt_in (List.mem_append_right _ (List.mem_of_getElem? (i := 347) (by decide +kernel))) (by decide +kernel)
theorem tw_348 : (Cond.code yX1_moveOn cX1_moveOn 2 none) ∈ lt := lt_in (List.mem_append_right _ (List.mem_of_getElem? (i := 348) (by decide +kernel))) (by decide +kernel)
theorem tw_349 : (Cond.methodLink RX1 125 yX1_firstFalse) ∈ lt := lt_in (List.mem_append_right _ (List.mem_of_getElem? (i := 349) (by decide +kernel))) (by decide +kernel)
theorem tw_350 : (Cond.instanceMethod yX1_firstFalse) ∈ lt := lt_in (List.mem_append_right _ (List.mem_of_getElem? (i := 350) (by decide +kernel))) (by decide +kernel)
theorem tw_351 : (Cond.selects RX1 yX1_firstFalse yX1_firstFalse) ∈ lt := lt_in (List.mem_append_right _ (List.mem_of_getElem? (i := 351) (by decide +kernel))) (by decide +kernel)
theorem tw_352 : (Cond.code yX1_firstFalse cX1_firstFalse 2 (some .int)) ∈ lt := lt_in (List.mem_append_right _ (List.mem_of_getElem? (i := 352) (by decide +kernel))) (by decide +kernel)
theorem tw_353 : (Cond.methodLink RX1 73 yX1_isFalse) ∈ lt := lt_in (List.mem_append_right _ (List.mem_of_getElem? (i := 353) (by decide +kernel))) (by decide +kernel)
theorem tw_354 : (Cond.instanceMethod yX1_isFalse) ∈ lt := lt_in (List.mem_append_right _ (List.mem_of_getElem? (i := 354) (by decide +kernel))) (by decide +kernel)
theorem tw_355 : (Cond.selects RX1 yX1_isFalse yX1_isFalse) ∈ lt := lt_in (List.mem_append_right _ (List.mem_of_getElem? (i := 355) (by decide +kernel))) (by decide +kernel)
theorem tw_356 : (Cond.code yX1_isFalse cX1_isFalse 2 (some .boolean)) ∈ lt := lt_in (List.mem_append_right _ (List.mem_of_getElem? (i := 356) (by decide +kernel))) (by decide +kernel)
theorem tw_357 : (Cond.methodLink RL 38 yX6_attempt) ∈ lt := lt_in (List.mem_append_right _ (List.mem_of_getElem? (i := 357) (by decide +kernel))) (by decide +kernel)
theorem tw_358 : (Cond.instanceMethod yX6_attempt) ∈ lt := lt_in (List.mem_append_right _ (List.mem_of_getElem? (i := 358) (by decide +kernel))) (by decide +kernel)
theorem tw_359 : (Cond.selects RX6 yX6_attempt yX6_attempt) ∈ lt := lt_in (List.mem_append_right _ (List.mem_of_getElem? (i := 359) (by decide +kernel))) (by decide +kernel)
theorem tw_360 : (Cond.code yX6_attempt cX6_attempt 7 (some .long)) ∈ lt := lt_in (List.mem_append_right _ (List.mem_of_getElem? (i := 360) (by decide +kernel))) (by decide +kernel)
theorem tw_361 : (Cond.constantLong RX6 106 (-1)) ∈ lt := lt_in (List.mem_append_right _ (List.mem_of_getElem? (i := 361) (by decide +kernel))) (by decide +kernel)
theorem tw_362 : (Cond.methodLink RX6 108 yX1_scoreBehind) ∈ lt := lt_in (List.mem_append_right _ (List.mem_of_getElem? (i := 362) (by decide +kernel))) (by decide +kernel)
theorem tw_363 : (Cond.instanceMethod yX1_scoreBehind) ∈ lt := lt_in (List.mem_append_right _ (List.mem_of_getElem? (i := 363) (by decide +kernel))) (by decide +kernel)
theorem tw_364 : (Cond.selects RX1 yX1_scoreBehind yX1_scoreBehind) ∈ lt := lt_in (List.mem_append_right _ (List.mem_of_getElem? (i := 364) (by decide +kernel))) (by decide +kernel)
theorem tw_365 : (Cond.code yX1_scoreBehind cX1_scoreBehind 8 (some .long)) ∈ lt := lt_in (List.mem_append_right _ (List.mem_of_getElem? (i := 365) (by decide +kernel))) (by decide +kernel)
theorem tw_366 : (Cond.methodLink RX1 80 yX1_scoreNow) ∈ lt := lt_in (List.mem_append_right _ (List.mem_of_getElem? (i := 366) (by decide +kernel))) (by decide +kernel)
theorem tw_367 : (Cond.instanceMethod yX1_scoreNow) ∈ lt := lt_in (List.mem_append_right _ (List.mem_of_getElem? (i := 367) (by decide +kernel))) (by decide +kernel)
theorem tw_368 : (Cond.selects RX1 yX1_scoreNow yX1_scoreNow) ∈ lt := lt_in (List.mem_append_right _ (List.mem_of_getElem? (i := 368) (by decide +kernel))) (by decide +kernel)
theorem tw_369 : (Cond.code yX1_scoreNow cX1_scoreNow 5 (some .long)) ∈ lt := lt_in (List.mem_append_right _ (List.mem_of_getElem? (i := 369) (by decide +kernel))) (by decide +kernel)
theorem tw_370 : (Cond.methodLink RL 43 yX6_undo) ∈ lt := lt_in (List.mem_append_right _ (List.mem_of_getElem? (i := 370) (by decide +kernel))) (by decide +kernel)
theorem tw_371 : (Cond.instanceMethod yX6_undo) ∈ lt := lt_in (List.mem_append_right _ (List.mem_of_getElem? (i := 371) (by decide +kernel))) (by decide +kernel)
theorem tw_372 : (Cond.selects RX6 yX6_undo yX6_undo) ∈ lt := lt_in (List.mem_append_right _ (List.mem_of_getElem? (i := 372) (by decide +kernel))) (by decide +kernel)
theorem tw_373 : (Cond.code yX6_undo cX6_undo 3 (some .int)) ∈ lt := lt_in (List.mem_append_right _ (List.mem_of_getElem? (i := 373) (by decide +kernel))) (by decide +kernel)
theorem tw_374 : (Cond.methodLink RX6 112 yX1_undoable) ∈ lt := lt_in (List.mem_append_right _ (List.mem_of_getElem? (i := 374) (by decide +kernel))) (by decide +kernel)
theorem tw_375 : (Cond.instanceMethod yX1_undoable) ∈ lt := lt_in (List.mem_append_right _ (List.mem_of_getElem? (i := 375) (by decide +kernel))) (by decide +kernel)
theorem tw_376 : (Cond.selects RX1 yX1_undoable yX1_undoable) ∈ lt := lt_in (List.mem_append_right _ (List.mem_of_getElem? (i := 376) (by decide +kernel))) (by decide +kernel)
theorem tw_377 : (Cond.code yX1_undoable cX1_undoable 1 (some .int)) ∈ lt := lt_in (List.mem_append_right _ (List.mem_of_getElem? (i := 377) (by decide +kernel))) (by decide +kernel)
theorem tw_378 : (Cond.methodLink RX6 115 yX1_takeBack) ∈ lt := lt_in (List.mem_append_right _ (List.mem_of_getElem? (i := 378) (by decide +kernel))) (by decide +kernel)
theorem tw_379 : (Cond.instanceMethod yX1_takeBack) ∈ lt := lt_in (List.mem_append_right _ (List.mem_of_getElem? (i := 379) (by decide +kernel))) (by decide +kernel)
theorem tw_380 : (Cond.selects RX1 yX1_takeBack yX1_takeBack) ∈ lt := lt_in (List.mem_append_right _ (List.mem_of_getElem? (i := 380) (by decide +kernel))) (by decide +kernel)
theorem tw_381 : (Cond.code yX1_takeBack cX1_takeBack 2 none) ∈ lt := lt_in (List.mem_append_right _ (List.mem_of_getElem? (i := 381) (by decide +kernel))) (by decide +kernel)
theorem tw_382 : (Cond.methodLink RX1 132 yX0_pop) ∈ lt := lt_in (List.mem_append_right _ (List.mem_of_getElem? (i := 382) (by decide +kernel))) (by decide +kernel)
theorem tw_383 : (Cond.instanceMethod yX0_pop) ∈ lt := lt_in (List.mem_append_right _ (List.mem_of_getElem? (i := 383) (by decide +kernel))) (by decide +kernel)
theorem tw_384 : (Cond.selects RX0 yX0_pop yX0_pop) ∈ lt := lt_in (List.mem_append_right _ (List.mem_of_getElem? (i := 384) (by decide +kernel))) (by decide +kernel)
theorem tw_385 : (Cond.code yX0_pop cX0_pop 1 (some .int)) ∈ lt := lt_in (List.mem_append_right _ (List.mem_of_getElem? (i := 385) (by decide +kernel))) (by decide +kernel)
theorem tw_386 : (Cond.methodLink RX1 147 arraycopyName) ∈ lt := lt_in (List.mem_append_right _ (List.mem_of_getElem? (i := 386) (by decide +kernel))) (by decide +kernel)
theorem tw_387 : (Cond.methodLink RL 47 yX6_begin) ∈ lt := lt_in (List.mem_append_right _ (List.mem_of_getElem? (i := 387) (by decide +kernel))) (by decide +kernel)
theorem tw_388 : (Cond.instanceMethod yX6_begin) ∈ lt := lt_in (List.mem_append_right _ (List.mem_of_getElem? (i := 388) (by decide +kernel))) (by decide +kernel)
theorem tw_389 : (Cond.selects RX6 yX6_begin yX6_begin) ∈ lt := lt_in (List.mem_append_right _ (List.mem_of_getElem? (i := 389) (by decide +kernel))) (by decide +kernel)
theorem tw_390 : (Cond.code yX6_begin cX6_begin 3 (some .int)) ∈ lt := lt_in (List.mem_append_right _ (List.mem_of_getElem? (i := 390) (by decide +kernel))) (by decide +kernel)
theorem tw_391 : (Cond.methodLink RL 51 yX6_end) ∈ lt := lt_in (List.mem_append_right _ (List.mem_of_getElem? (i := 391) (by decide +kernel))) (by decide +kernel)
theorem tw_392 : (Cond.instanceMethod yX6_end) ∈ lt := lt_in (List.mem_append_right _ (List.mem_of_getElem? (i := 392) (by decide +kernel))) (by decide +kernel)
theorem tw_393 : (Cond.selects RX6 yX6_end yX6_end) ∈ lt := lt_in (List.mem_append_right _ (List.mem_of_getElem? (i := 393) (by decide +kernel))) (by decide +kernel)
theorem tw_394 : (Cond.code yX6_end cX6_end 4 (some .int)) ∈ lt := lt_in (List.mem_append_right _ (List.mem_of_getElem? (i := 394) (by decide +kernel))) (by decide +kernel)
theorem tw_395 : (Cond.methodLink RX6 134 yX1_closeBatch) ∈ lt := lt_in (List.mem_append_right _ (List.mem_of_getElem? (i := 395) (by decide +kernel))) (by decide +kernel)
theorem tw_396 : (Cond.instanceMethod yX1_closeBatch) ∈ lt := lt_in (List.mem_append_right _ (List.mem_of_getElem? (i := 396) (by decide +kernel))) (by decide +kernel)
theorem tw_397 : (Cond.selects RX1 yX1_closeBatch yX1_closeBatch) ∈ lt := lt_in (List.mem_append_right _ (List.mem_of_getElem? (i := 397) (by decide +kernel))) (by decide +kernel)
theorem tw_398 : (Cond.code yX1_closeBatch cX1_closeBatch 4 (some .int)) ∈ lt := lt_in (List.mem_append_right _ (List.mem_of_getElem? (i := 398) (by decide +kernel))) (by decide +kernel)
theorem tw_399 : (Cond.methodLink RX1 153 yX1_takeBack) ∈ lt := lt_in (List.mem_append_right _ (List.mem_of_getElem? (i := 399) (by decide +kernel))) (by decide +kernel)
theorem tw_400 : (Cond.methodLink RL 56 yX6_member) ∈ lt := lt_in (List.mem_append_right _ (List.mem_of_getElem? (i := 400) (by decide +kernel))) (by decide +kernel)
theorem tw_401 : (Cond.instanceMethod yX6_member) ∈ lt := lt_in (List.mem_append_right _ (List.mem_of_getElem? (i := 401) (by decide +kernel))) (by decide +kernel)
theorem tw_402 : (Cond.selects RX6 yX6_member yX6_member) ∈ lt := lt_in (List.mem_append_right _ (List.mem_of_getElem? (i := 402) (by decide +kernel))) (by decide +kernel)
theorem tw_403 : (Cond.code yX6_member cX6_member 5 (some .int)) ∈ lt := lt_in (List.mem_append_right _ (List.mem_of_getElem? (i := 403) (by decide +kernel))) (by decide +kernel)
theorem tw_404 : (Cond.methodLink RX6 138 yX5_read) ∈ lt := lt_in (List.mem_append_right _ (List.mem_of_getElem? (i := 404) (by decide +kernel))) (by decide +kernel)
theorem tw_405 : (Cond.instanceMethod yX5_read) ∈ lt := lt_in (List.mem_append_right _ (List.mem_of_getElem? (i := 405) (by decide +kernel))) (by decide +kernel)
theorem tw_406 : (Cond.selects RX5 yX5_read yX5_read) ∈ lt := lt_in (List.mem_append_right _ (List.mem_of_getElem? (i := 406) (by decide +kernel))) (by decide +kernel)
theorem tw_407 : (Cond.code yX5_read cX5_read 3 (some .int)) ∈ lt := lt_in (List.mem_append_right _ (List.mem_of_getElem? (i := 407) (by decide +kernel))) (by decide +kernel)
theorem tw_408 : (Cond.constant RX5 28 (-1000000)) ∈ lt := lt_in (List.mem_append_right _ (List.mem_of_getElem? (i := 408) (by decide +kernel))) (by decide +kernel)
theorem tw_409 : (Cond.methodLink RL 61 yX6_score) ∈ lt := lt_in (List.mem_append_right _ (List.mem_of_getElem? (i := 409) (by decide +kernel))) (by decide +kernel)
theorem tw_410 : (Cond.instanceMethod yX6_score) ∈ lt := lt_in (List.mem_append_right _ (List.mem_of_getElem? (i := 410) (by decide +kernel))) (by decide +kernel)
theorem tw_411 : (Cond.selects RX6 yX6_score yX6_score) ∈ lt := lt_in (List.mem_append_right _ (List.mem_of_getElem? (i := 411) (by decide +kernel))) (by decide +kernel)
theorem tw_412 : (Cond.code yX6_score cX6_score 4 (some .long)) ∈ lt := lt_in (List.mem_append_right _ (List.mem_of_getElem? (i := 412) (by decide +kernel))) (by decide +kernel)
theorem tw_413 : (Cond.methodLink RX6 142 yX1_scoreNow) ∈ lt := lt_in (List.mem_append_right _ (List.mem_of_getElem? (i := 413) (by decide +kernel))) (by decide +kernel)
theorem tw_414 : (Cond.methodLink RL 66 yX6_worth) ∈ lt := lt_in (List.mem_append_right _ (List.mem_of_getElem? (i := 414) (by decide +kernel))) (by decide +kernel)
theorem tw_415 : (Cond.instanceMethod yX6_worth) ∈ lt := lt_in (List.mem_append_right _ (List.mem_of_getElem? (i := 415) (by decide +kernel))) (by decide +kernel)
theorem tw_416 : (Cond.selects RX6 yX6_worth yX6_worth) ∈ lt := lt_in (List.mem_append_right _ (List.mem_of_getElem? (i := 416) (by decide +kernel))) (by decide +kernel)
theorem tw_417 : (Cond.code yX6_worth cX6_worth 5 (some .long)) ∈ lt := lt_in (List.mem_append_right _ (List.mem_of_getElem? (i := 417) (by decide +kernel))) (by decide +kernel)
theorem tw_418 : (Cond.methodLink RL 71 yX6_check) ∈ lt := lt_in (List.mem_append_right _ (List.mem_of_getElem? (i := 418) (by decide +kernel))) (by decide +kernel)
theorem tw_419 : (Cond.instanceMethod yX6_check) ∈ lt := lt_in (List.mem_append_right _ (List.mem_of_getElem? (i := 419) (by decide +kernel))) (by decide +kernel)
theorem tw_420 : (Cond.selects RX6 yX6_check yX6_check) ∈ lt := lt_in (List.mem_append_right _ (List.mem_of_getElem? (i := 420) (by decide +kernel))) (by decide +kernel)
theorem tw_421 : (Cond.code yX6_check cX6_check 3 (some .int)) ∈ lt := lt_in (List.mem_append_right _ (List.mem_of_getElem? (i := 421) (by decide +kernel))) (by decide +kernel)
theorem tw_422 : (Cond.methodLink RX6 149 yX1_firstFalse) ∈ lt := lt_in (List.mem_append_right _ (List.mem_of_getElem? (i := 422) (by decide +kernel))) (by decide +kernel)
theorem tw_423 : (Cond.methodLink RL 75 yX6_every) ∈ lt := lt_in (List.mem_append_right _ (List.mem_of_getElem? (i := 423) (by decide +kernel))) (by decide +kernel)
theorem tw_424 : (Cond.instanceMethod yX6_every) ∈ lt := lt_in (List.mem_append_right _ (List.mem_of_getElem? (i := 424) (by decide +kernel))) (by decide +kernel)
theorem tw_425 : (Cond.selects RX6 yX6_every yX6_every) ∈ lt := lt_in (List.mem_append_right _ (List.mem_of_getElem? (i := 425) (by decide +kernel))) (by decide +kernel)
theorem tw_426 : (Cond.code yX6_every cX6_every 3 (some .int)) ∈ lt := lt_in (List.mem_append_right _ (List.mem_of_getElem? (i := 426) (by decide +kernel))) (by decide +kernel)
theorem tw_427 : (Cond.methodLink RL 79 yX6_mend) ∈ lt := lt_in (List.mem_append_right _ (List.mem_of_getElem? (i := 427) (by decide +kernel))) (by decide +kernel)
theorem tw_428 : (Cond.instanceMethod yX6_mend) ∈ lt := lt_in (List.mem_append_right _ (List.mem_of_getElem? (i := 428) (by decide +kernel))) (by decide +kernel)
theorem tw_429 : (Cond.selects RX6 yX6_mend yX6_mend) ∈ lt := lt_in (List.mem_append_right _ (List.mem_of_getElem? (i := 429) (by decide +kernel))) (by decide +kernel)
theorem tw_430 : (Cond.code yX6_mend cX6_mend 5 (some .int)) ∈ lt := lt_in (List.mem_append_right _ (List.mem_of_getElem? (i := 430) (by decide +kernel))) (by decide +kernel)
theorem tw_431 : (Cond.methodLink RX6 152 yX1_isFalse) ∈ lt := lt_in (List.mem_append_right _ (List.mem_of_getElem? (i := 431) (by decide +kernel))) (by decide +kernel)
theorem tw_432 : (Cond.methodLink RL 84 yX6_keep) ∈ lt := lt_in (List.mem_append_right _ (List.mem_of_getElem? (i := 432) (by decide +kernel))) (by decide +kernel)
theorem tw_433 : (Cond.instanceMethod yX6_keep) ∈ lt := lt_in (List.mem_append_right _ (List.mem_of_getElem? (i := 433) (by decide +kernel))) (by decide +kernel)
theorem tw_434 : (Cond.selects RX6 yX6_keep yX6_keep) ∈ lt := lt_in (List.mem_append_right _ (List.mem_of_getElem? (i := 434) (by decide +kernel))) (by decide +kernel)
theorem tw_435 : (Cond.code yX6_keep cX6_keep 3 (some .int)) ∈ lt := lt_in (List.mem_append_right _ (List.mem_of_getElem? (i := 435) (by decide +kernel))) (by decide +kernel)
theorem tw_436 : (Cond.instantiable RX4 2) ∈ lt := lt_in (List.mem_append_right _ (List.mem_of_getElem? (i := 436) (by decide +kernel))) (by decide +kernel)
theorem tw_437 : (Cond.methodLink RX6 158 yX4_init) ∈ lt := lt_in (List.mem_append_right _ (List.mem_of_getElem? (i := 437) (by decide +kernel))) (by decide +kernel)
theorem tw_438 : (Cond.instanceMethod yX4_init) ∈ lt := lt_in (List.mem_append_right _ (List.mem_of_getElem? (i := 438) (by decide +kernel))) (by decide +kernel)
theorem tw_439 : (Cond.code yX4_init cX4_init 3 none) ∈ lt := lt_in (List.mem_append_right _ (List.mem_of_getElem? (i := 439) (by decide +kernel))) (by decide +kernel)
theorem tw_440 : (Cond.methodLink RX4 3 objectInit) ∈ lt := lt_in (List.mem_append_right _ (List.mem_of_getElem? (i := 440) (by decide +kernel))) (by decide +kernel)
theorem tw_441 : (Cond.classLink RX4 9 RX5) ∈ lt := lt_in (List.mem_append_right _ (List.mem_of_getElem? (i := 441) (by decide +kernel))) (by decide +kernel)
theorem tw_442 : (Cond.methodLinkNest RX4 11 yX5_init RX6) ∈ lt := lt_in (List.mem_append_right _ (List.mem_of_getElem? (i := 442) (by decide +kernel))) (by decide +kernel)
theorem tw_443 : (Cond.methodLink RX4 27 yX5_becomeLike) ∈ lt := lt_in (List.mem_append_right _ (List.mem_of_getElem? (i := 443) (by decide +kernel))) (by decide +kernel)
theorem tw_444 : (Cond.methodLink RX4 31 yX1_scoreNow) ∈ lt := lt_in (List.mem_append_right _ (List.mem_of_getElem? (i := 444) (by decide +kernel))) (by decide +kernel)
theorem tw_445 : (Cond.fieldLink RX4 12 "ScoreDifferences$Snapshot" "members" "LScoreDifferences$Table;") ∈ lt := lt_in (List.mem_append_right _ (List.mem_of_getElem? (i := 445) (by decide +kernel))) (by decide +kernel)
theorem tw_446 : (Cond.fieldLinkNest RX6 167 "ScoreDifferences$Snapshot" "members" "LScoreDifferences$Table;" RX6) ∈ lt := lt_in (List.mem_append_right _ (List.mem_of_getElem? (i := 446) (by decide +kernel))) (by decide +kernel)
theorem tw_447 : (Cond.fieldLink RX4 18 "ScoreDifferences$Snapshot" "scores" "[J") ∈ lt := lt_in (List.mem_append_right _ (List.mem_of_getElem? (i := 447) (by decide +kernel))) (by decide +kernel)
theorem tw_448 : (Cond.fieldLinkNest RX6 164 "ScoreDifferences$Snapshot" "scores" "[J" RX6) ∈ lt := lt_in (List.mem_append_right _ (List.mem_of_getElem? (i := 448) (by decide +kernel))) (by decide +kernel)
theorem tw_454 : (Cond.methodLink RL 88 yX6_kept) ∈ lt := lt_in (List.mem_append_right _ (List.mem_of_getElem? (i := 454) (by decide +kernel))) (by decide +kernel)
theorem tw_455 : (Cond.instanceMethod yX6_kept) ∈ lt := lt_in (List.mem_append_right _ (List.mem_of_getElem? (i := 455) (by decide +kernel))) (by decide +kernel)
theorem tw_456 : (Cond.selects RX6 yX6_kept yX6_kept) ∈ lt := lt_in (List.mem_append_right _ (List.mem_of_getElem? (i := 456) (by decide +kernel))) (by decide +kernel)
theorem tw_457 : (Cond.code yX6_kept cX6_kept 4 (some .long)) ∈ lt := lt_in (List.mem_append_right _ (List.mem_of_getElem? (i := 457) (by decide +kernel))) (by decide +kernel)
theorem tw_458 : (Cond.methodLink RX6 160 yX6_snapshotAt) ∈ lt := lt_in (List.mem_append_right _ (List.mem_of_getElem? (i := 458) (by decide +kernel))) (by decide +kernel)
theorem tw_460 : (Cond.instanceMethod yX6_snapshotAt) ∈ lt := lt_in (List.mem_append_right _ (List.mem_of_getElem? (i := 460) (by decide +kernel))) (by decide +kernel)
theorem tw_461 : (Cond.code yX6_snapshotAt cX6_snapshotAt 2 (some (.object "ScoreDifferences$Snapshot"))) ∈ lt := lt_in (List.mem_append_right _ (List.mem_of_getElem? (i := 461) (by decide +kernel))) (by decide +kernel)
theorem tw_462 : (Cond.methodLink RL 92 yX6_then) ∈ lt := lt_in (List.mem_append_right _ (List.mem_of_getElem? (i := 462) (by decide +kernel))) (by decide +kernel)
theorem tw_463 : (Cond.instanceMethod yX6_then) ∈ lt := lt_in (List.mem_append_right _ (List.mem_of_getElem? (i := 463) (by decide +kernel))) (by decide +kernel)
theorem tw_464 : (Cond.selects RX6 yX6_then yX6_then) ∈ lt := lt_in (List.mem_append_right _ (List.mem_of_getElem? (i := 464) (by decide +kernel))) (by decide +kernel)
theorem tw_465 : (Cond.code yX6_then cX6_then 5 (some .int)) ∈ lt := lt_in (List.mem_append_right _ (List.mem_of_getElem? (i := 465) (by decide +kernel))) (by decide +kernel)
theorem tw_466 : (Cond.methodLink RL 96 yX6_told) ∈ lt := lt_in (List.mem_append_right _ (List.mem_of_getElem? (i := 466) (by decide +kernel))) (by decide +kernel)
theorem tw_467 : (Cond.instanceMethod yX6_told) ∈ lt := lt_in (List.mem_append_right _ (List.mem_of_getElem? (i := 467) (by decide +kernel))) (by decide +kernel)
theorem tw_468 : (Cond.selects RX6 yX6_told yX6_told) ∈ lt := lt_in (List.mem_append_right _ (List.mem_of_getElem? (i := 468) (by decide +kernel))) (by decide +kernel)
theorem tw_469 : (Cond.code yX6_told cX6_told 4 (some .int)) ∈ lt := lt_in (List.mem_append_right _ (List.mem_of_getElem? (i := 469) (by decide +kernel))) (by decide +kernel)
theorem tw_470 : (Cond.methodLink RX6 170 yX1_figure) ∈ lt := lt_in (List.mem_append_right _ (List.mem_of_getElem? (i := 470) (by decide +kernel))) (by decide +kernel)
theorem tw_471 : (Cond.instanceMethod yX1_figure) ∈ lt := lt_in (List.mem_append_right _ (List.mem_of_getElem? (i := 471) (by decide +kernel))) (by decide +kernel)
theorem tw_472 : (Cond.selects RX1 yX1_figure yX1_figure) ∈ lt := lt_in (List.mem_append_right _ (List.mem_of_getElem? (i := 472) (by decide +kernel))) (by decide +kernel)
theorem tw_473 : (Cond.code yX1_figure cX1_figure 2 (some .int)) ∈ lt := lt_in (List.mem_append_right _ (List.mem_of_getElem? (i := 473) (by decide +kernel))) (by decide +kernel)
theorem tw_474 : (Cond.methodLinkNest RX1 159 yX6_oneIf RX6) ∈ lt := lt_in (List.mem_append_right _ (List.mem_of_getElem? (i := 474) (by decide +kernel))) (by decide +kernel)
theorem tw_475 : (Cond.methodLink RX1 163 yX1_countForgetting) ∈ lt := lt_in (List.mem_append_right _ (List.mem_of_getElem? (i := 475) (by decide +kernel))) (by decide +kernel)
theorem tw_477 : (Cond.instanceMethod yX1_countForgetting) ∈ lt := lt_in (List.mem_append_right _ (List.mem_of_getElem? (i := 477) (by decide +kernel))) (by decide +kernel)
theorem tw_478 : (Cond.code yX1_countForgetting cX1_countForgetting 3 (some .int)) ∈ lt := lt_in (List.mem_append_right _ (List.mem_of_getElem? (i := 478) (by decide +kernel))) (by decide +kernel)
theorem tw_479 : (Cond.methodLink RL 100 yX6_all) ∈ lt := lt_in (List.mem_append_right _ (List.mem_of_getElem? (i := 479) (by decide +kernel))) (by decide +kernel)
theorem tw_480 : (Cond.instanceMethod yX6_all) ∈ lt := lt_in (List.mem_append_right _ (List.mem_of_getElem? (i := 480) (by decide +kernel))) (by decide +kernel)
theorem tw_481 : (Cond.selects RX6 yX6_all yX6_all) ∈ lt := lt_in (List.mem_append_right _ (List.mem_of_getElem? (i := 481) (by decide +kernel))) (by decide +kernel)
theorem tw_482 : (Cond.code yX6_all cX6_all 2 (some .int)) ∈ lt := lt_in (List.mem_append_right _ (List.mem_of_getElem? (i := 482) (by decide +kernel))) (by decide +kernel)
theorem tw_483 : (Cond.classLink RL 10 RX7) ∈ lt := lt_in (List.mem_append_right _ (List.mem_of_getElem? (i := 483) (by decide +kernel))) (by decide +kernel)
theorem tw_484 : (Cond.instantiable RX7 28) ∈ lt := lt_in (List.mem_append_right _ (List.mem_of_getElem? (i := 484) (by decide +kernel))) (by decide +kernel)
theorem tw_485 : (Cond.methodLink RL 12 yX7_init) ∈ lt := lt_in (List.mem_append_right _ (List.mem_of_getElem? (i := 485) (by decide +kernel))) (by decide +kernel)
theorem tw_486 : (Cond.instanceMethod yX7_init) ∈ lt := lt_in (List.mem_append_right _ (List.mem_of_getElem? (i := 486) (by decide +kernel))) (by decide +kernel)
theorem tw_487 : (Cond.code yX7_init cX7_init 2 none) ∈ lt := lt_in (List.mem_append_right _ (List.mem_of_getElem? (i := 487) (by decide +kernel))) (by decide +kernel)
theorem tw_488 : (Cond.methodLink RX7 1 objectInit) ∈ lt := lt_in (List.mem_append_right _ (List.mem_of_getElem? (i := 488) (by decide +kernel))) (by decide +kernel)
theorem tw_489 : (Cond.fieldLink RX7 89 "ScoreDifferencesModel" "objects" "I") ∈ lt := lt_in (List.mem_append_right _ (List.mem_of_getElem? (i := 489) (by decide +kernel))) (by decide +kernel)
theorem tw_490 : (Cond.fieldLink RX7 96 "ScoreDifferencesModel" "rules" "I") ∈ lt := lt_in (List.mem_append_right _ (List.mem_of_getElem? (i := 490) (by decide +kernel))) (by decide +kernel)
theorem tw_491 : (Cond.fieldLink RX7 7 "ScoreDifferencesModel" "kind" "[I") ∈ lt := lt_in (List.mem_append_right _ (List.mem_of_getElem? (i := 491) (by decide +kernel))) (by decide +kernel)
theorem tw_492 : (Cond.fieldLink RX7 13 "ScoreDifferencesModel" "looks" "[I") ∈ lt := lt_in (List.mem_append_right _ (List.mem_of_getElem? (i := 492) (by decide +kernel))) (by decide +kernel)
theorem tw_493 : (Cond.fieldLink RX7 16 "ScoreDifferencesModel" "bound" "[I") ∈ lt := lt_in (List.mem_append_right _ (List.mem_of_getElem? (i := 493) (by decide +kernel))) (by decide +kernel)
theorem tw_494 : (Cond.fieldLink RX7 19 "ScoreDifferencesModel" "weight" "[I") ∈ lt := lt_in (List.mem_append_right _ (List.mem_of_getElem? (i := 494) (by decide +kernel))) (by decide +kernel)
theorem tw_495 : (Cond.fieldLink RX7 22 "ScoreDifferencesModel" "level" "[I") ∈ lt := lt_in (List.mem_append_right _ (List.mem_of_getElem? (i := 495) (by decide +kernel))) (by decide +kernel)
theorem tw_496 : (Cond.fieldLink RX7 25 "ScoreDifferencesModel" "plans" "I") ∈ lt := lt_in (List.mem_append_right _ (List.mem_of_getElem? (i := 496) (by decide +kernel))) (by decide +kernel)
theorem tw_497 : (Cond.fieldLink RX7 29 "ScoreDifferencesModel" "member" "[I") ∈ lt := lt_in (List.mem_append_right _ (List.mem_of_getElem? (i := 497) (by decide +kernel))) (by decide +kernel)
theorem tw_498 : (Cond.fieldLink RX7 32 "ScoreDifferencesModel" "kept" "[J") ∈ lt := lt_in (List.mem_append_right _ (List.mem_of_getElem? (i := 498) (by decide +kernel))) (by decide +kernel)
theorem tw_499 : (Cond.fieldLink RX7 36 "ScoreDifferencesModel" "forgets" "[Z") ∈ lt := lt_in (List.mem_append_right _ (List.mem_of_getElem? (i := 499) (by decide +kernel))) (by decide +kernel)
theorem tw_500 : (Cond.fieldLink RX7 40 "ScoreDifferencesModel" "changes" "[I") ∈ lt := lt_in (List.mem_append_right _ (List.mem_of_getElem? (i := 500) (by decide +kernel))) (by decide +kernel)
theorem tw_501 : (Cond.fieldLink RX7 43 "ScoreDifferencesModel" "cost" "[I") ∈ lt := lt_in (List.mem_append_right _ (List.mem_of_getElem? (i := 501) (by decide +kernel))) (by decide +kernel)
theorem tw_502 : (Cond.fieldLink RX7 46 "ScoreDifferencesModel" "found" "[I") ∈ lt := lt_in (List.mem_append_right _ (List.mem_of_getElem? (i := 502) (by decide +kernel))) (by decide +kernel)
theorem tw_503 : (Cond.fieldLink RX7 49 "ScoreDifferencesModel" "isBatch" "[Z") ∈ lt := lt_in (List.mem_append_right _ (List.mem_of_getElem? (i := 503) (by decide +kernel))) (by decide +kernel)
theorem tw_504 : (Cond.fieldLink RX7 52 "ScoreDifferencesModel" "batch" "[I") ∈ lt := lt_in (List.mem_append_right _ (List.mem_of_getElem? (i := 504) (by decide +kernel))) (by decide +kernel)
theorem tw_505 : (Cond.fieldLink RX7 55 "ScoreDifferencesModel" "known" "[I") ∈ lt := lt_in (List.mem_append_right _ (List.mem_of_getElem? (i := 505) (by decide +kernel))) (by decide +kernel)
theorem tw_506 : (Cond.fieldLink RX7 58 "ScoreDifferencesModel" "oldObject" "[I") ∈ lt := lt_in (List.mem_append_right _ (List.mem_of_getElem? (i := 506) (by decide +kernel))) (by decide +kernel)
theorem tw_507 : (Cond.fieldLink RX7 61 "ScoreDifferencesModel" "oldMember" "[I") ∈ lt := lt_in (List.mem_append_right _ (List.mem_of_getElem? (i := 507) (by decide +kernel))) (by decide +kernel)
theorem tw_508 : (Cond.fieldLink RX7 64 "ScoreDifferencesModel" "oldNumber" "[I") ∈ lt := lt_in (List.mem_append_right _ (List.mem_of_getElem? (i := 508) (by decide +kernel))) (by decide +kernel)
theorem tw_509 : (Cond.fieldLink RX7 67 "ScoreDifferencesModel" "oldKept" "[J") ∈ lt := lt_in (List.mem_append_right _ (List.mem_of_getElem? (i := 509) (by decide +kernel))) (by decide +kernel)
theorem tw_510 : (Cond.fieldLink RX7 138 "ScoreDifferencesModel" "every" "I") ∈ lt := lt_in (List.mem_append_right _ (List.mem_of_getElem? (i := 510) (by decide +kernel))) (by decide +kernel)
theorem tw_511 : (Cond.fieldLink RX7 155 "ScoreDifferencesModel" "keeps" "I") ∈ lt := lt_in (List.mem_append_right _ (List.mem_of_getElem? (i := 511) (by decide +kernel))) (by decide +kernel)
theorem tw_512 : (Cond.fieldLink RX7 70 "ScoreDifferencesModel" "keptScore" "[J") ∈ lt := lt_in (List.mem_append_right _ (List.mem_of_getElem? (i := 512) (by decide +kernel))) (by decide +kernel)
theorem tw_513 : (Cond.fieldLink RX7 73 "ScoreDifferencesModel" "keptMember" "[I") ∈ lt := lt_in (List.mem_append_right _ (List.mem_of_getElem? (i := 513) (by decide +kernel))) (by decide +kernel)
theorem tw_514 : (Cond.fieldLink RX7 76 "ScoreDifferencesModel" "keptObjects" "[I") ∈ lt := lt_in (List.mem_append_right _ (List.mem_of_getElem? (i := 514) (by decide +kernel))) (by decide +kernel)
theorem tw_515 : (Cond.fieldLink RX7 79 "ScoreDifferencesModel" "was" "[I") ∈ lt := lt_in (List.mem_append_right _ (List.mem_of_getElem? (i := 515) (by decide +kernel))) (by decide +kernel)
theorem tw_516 : (Cond.fieldLink RX7 82 "ScoreDifferencesModel" "worthWas" "[J") ∈ lt := lt_in (List.mem_append_right _ (List.mem_of_getElem? (i := 516) (by decide +kernel))) (by decide +kernel)
theorem tw_574 : (Cond.methodLink RL 17 yX7_object) ∈ lt := lt_in (List.mem_append_right _ (List.mem_of_getElem? (i := 574) (by decide +kernel))) (by decide +kernel)
theorem tw_575 : (Cond.instanceMethod yX7_object) ∈ lt := lt_in (List.mem_append_right _ (List.mem_of_getElem? (i := 575) (by decide +kernel))) (by decide +kernel)
theorem tw_576 : (Cond.selects RX7 yX7_object yX7_object) ∈ lt := lt_in (List.mem_append_right _ (List.mem_of_getElem? (i := 576) (by decide +kernel))) (by decide +kernel)
theorem tw_577 : (Cond.code yX7_object cX7_object 2 (some .int)) ∈ lt := lt_in (List.mem_append_right _ (List.mem_of_getElem? (i := 577) (by decide +kernel))) (by decide +kernel)
theorem tw_578 : (Cond.methodLink RX7 103 yX7_isBegun) ∈ lt := lt_in (List.mem_append_right _ (List.mem_of_getElem? (i := 578) (by decide +kernel))) (by decide +kernel)
theorem tw_580 : (Cond.instanceMethod yX7_isBegun) ∈ lt := lt_in (List.mem_append_right _ (List.mem_of_getElem? (i := 580) (by decide +kernel))) (by decide +kernel)
theorem tw_581 : (Cond.code yX7_isBegun cX7_isBegun 1 (some .boolean)) ∈ lt := lt_in (List.mem_append_right _ (List.mem_of_getElem? (i := 581) (by decide +kernel))) (by decide +kernel)
theorem tw_582 : (Cond.methodLink RX7 107 yX7_remember) ∈ lt := lt_in (List.mem_append_right _ (List.mem_of_getElem? (i := 582) (by decide +kernel))) (by decide +kernel)
theorem tw_584 : (Cond.instanceMethod yX7_remember) ∈ lt := lt_in (List.mem_append_right _ (List.mem_of_getElem? (i := 584) (by decide +kernel))) (by decide +kernel)
theorem tw_585 : (Cond.code yX7_remember cX7_remember 3 none) ∈ lt := lt_in (List.mem_append_right _ (List.mem_of_getElem? (i := 585) (by decide +kernel))) (by decide +kernel)
theorem tw_586 : (Cond.methodLink RX7 99 yX7_worthOf) ∈ lt := lt_in (List.mem_append_right _ (List.mem_of_getElem? (i := 586) (by decide +kernel))) (by decide +kernel)
theorem tw_588 : (Cond.instanceMethod yX7_worthOf) ∈ lt := lt_in (List.mem_append_right _ (List.mem_of_getElem? (i := 588) (by decide +kernel))) (by decide +kernel)
theorem tw_589 : (Cond.code yX7_worthOf cX7_worthOf 15 (some .long)) ∈ lt := lt_in (List.mem_append_right _ (List.mem_of_getElem? (i := 589) (by decide +kernel))) (by decide +kernel)
theorem tw_590 : (Cond.methodLink RX7 92 yX7_at) ∈ lt := lt_in (List.mem_append_right _ (List.mem_of_getElem? (i := 590) (by decide +kernel))) (by decide +kernel)
theorem tw_592 : (Cond.instanceMethod yX7_at) ∈ lt := lt_in (List.mem_append_right _ (List.mem_of_getElem? (i := 592) (by decide +kernel))) (by decide +kernel)
theorem tw_593 : (Cond.code yX7_at cX7_at 4 (some .int)) ∈ lt := lt_in (List.mem_append_right _ (List.mem_of_getElem? (i := 593) (by decide +kernel))) (by decide +kernel)
theorem tw_594 : (Cond.methodLink RL 22 yX7_rule) ∈ lt := lt_in (List.mem_append_right _ (List.mem_of_getElem? (i := 594) (by decide +kernel))) (by decide +kernel)
theorem tw_595 : (Cond.instanceMethod yX7_rule) ∈ lt := lt_in (List.mem_append_right _ (List.mem_of_getElem? (i := 595) (by decide +kernel))) (by decide +kernel)
theorem tw_596 : (Cond.selects RX7 yX7_rule yX7_rule) ∈ lt := lt_in (List.mem_append_right _ (List.mem_of_getElem? (i := 596) (by decide +kernel))) (by decide +kernel)
theorem tw_597 : (Cond.code yX7_rule cX7_rule 6 (some .int)) ∈ lt := lt_in (List.mem_append_right _ (List.mem_of_getElem? (i := 597) (by decide +kernel))) (by decide +kernel)
theorem tw_598 : (Cond.methodLink RX7 85 yX7_in) ∈ lt := lt_in (List.mem_append_right _ (List.mem_of_getElem? (i := 598) (by decide +kernel))) (by decide +kernel)
theorem tw_599 : (Cond.static yX7_in) ∈ lt := lt_in (List.mem_append_right _ (List.mem_of_getElem? (i := 599) (by decide +kernel))) (by decide +kernel)
theorem tw_600 : (Cond.code yX7_in cX7_in 3 (some .boolean)) ∈ lt := lt_in (List.mem_append_right _ (List.mem_of_getElem? (i := 600) (by decide +kernel))) (by decide +kernel)
theorem tw_601 : (Cond.constant RX7 111 (-1000000)) ∈ lt := lt_in (List.mem_append_right _ (List.mem_of_getElem? (i := 601) (by decide +kernel))) (by decide +kernel)
theorem tw_602 : (Cond.constant RX7 112 (1000000)) ∈ lt := lt_in (List.mem_append_right _ (List.mem_of_getElem? (i := 602) (by decide +kernel))) (by decide +kernel)
theorem tw_603 : (Cond.methodLink RL 27 yX7_forget) ∈ lt := lt_in (List.mem_append_right _ (List.mem_of_getElem? (i := 603) (by decide +kernel))) (by decide +kernel)
theorem tw_604 : (Cond.instanceMethod yX7_forget) ∈ lt := lt_in (List.mem_append_right _ (List.mem_of_getElem? (i := 604) (by decide +kernel))) (by decide +kernel)
theorem tw_605 : (Cond.selects RX7 yX7_forget yX7_forget) ∈ lt := lt_in (List.mem_append_right _ (List.mem_of_getElem? (i := 605) (by decide +kernel))) (by decide +kernel)
theorem tw_606 : (Cond.code yX7_forget cX7_forget 5 (some .int)) ∈ lt := lt_in (List.mem_append_right _ (List.mem_of_getElem? (i := 606) (by decide +kernel))) (by decide +kernel)
theorem tw_607 : (Cond.methodLink RX7 113 yX7_isPlan) ∈ lt := lt_in (List.mem_append_right _ (List.mem_of_getElem? (i := 607) (by decide +kernel))) (by decide +kernel)
theorem tw_609 : (Cond.instanceMethod yX7_isPlan) ∈ lt := lt_in (List.mem_append_right _ (List.mem_of_getElem? (i := 609) (by decide +kernel))) (by decide +kernel)
theorem tw_610 : (Cond.code yX7_isPlan cX7_isPlan 2 (some .boolean)) ∈ lt := lt_in (List.mem_append_right _ (List.mem_of_getElem? (i := 610) (by decide +kernel))) (by decide +kernel)
theorem tw_611 : (Cond.methodLink RX7 117 yX7_isRule) ∈ lt := lt_in (List.mem_append_right _ (List.mem_of_getElem? (i := 611) (by decide +kernel))) (by decide +kernel)
theorem tw_613 : (Cond.instanceMethod yX7_isRule) ∈ lt := lt_in (List.mem_append_right _ (List.mem_of_getElem? (i := 613) (by decide +kernel))) (by decide +kernel)
theorem tw_614 : (Cond.code yX7_isRule cX7_isRule 2 (some .boolean)) ∈ lt := lt_in (List.mem_append_right _ (List.mem_of_getElem? (i := 614) (by decide +kernel))) (by decide +kernel)
theorem tw_615 : (Cond.methodLink RL 32 yX7_fork) ∈ lt := lt_in (List.mem_append_right _ (List.mem_of_getElem? (i := 615) (by decide +kernel))) (by decide +kernel)
theorem tw_616 : (Cond.instanceMethod yX7_fork) ∈ lt := lt_in (List.mem_append_right _ (List.mem_of_getElem? (i := 616) (by decide +kernel))) (by decide +kernel)
theorem tw_617 : (Cond.selects RX7 yX7_fork yX7_fork) ∈ lt := lt_in (List.mem_append_right _ (List.mem_of_getElem? (i := 617) (by decide +kernel))) (by decide +kernel)
theorem tw_618 : (Cond.code yX7_fork cX7_fork 3 (some .int)) ∈ lt := lt_in (List.mem_append_right _ (List.mem_of_getElem? (i := 618) (by decide +kernel))) (by decide +kernel)
theorem tw_619 : (Cond.methodLink RL 37 yX7_change) ∈ lt := lt_in (List.mem_append_right _ (List.mem_of_getElem? (i := 619) (by decide +kernel))) (by decide +kernel)
theorem tw_620 : (Cond.instanceMethod yX7_change) ∈ lt := lt_in (List.mem_append_right _ (List.mem_of_getElem? (i := 620) (by decide +kernel))) (by decide +kernel)
theorem tw_621 : (Cond.selects RX7 yX7_change yX7_change) ∈ lt := lt_in (List.mem_append_right _ (List.mem_of_getElem? (i := 621) (by decide +kernel))) (by decide +kernel)
theorem tw_622 : (Cond.code yX7_change cX7_change 6 (some .int)) ∈ lt := lt_in (List.mem_append_right _ (List.mem_of_getElem? (i := 622) (by decide +kernel))) (by decide +kernel)
theorem tw_623 : (Cond.methodLink RX7 123 yX7_isFit) ∈ lt := lt_in (List.mem_append_right _ (List.mem_of_getElem? (i := 623) (by decide +kernel))) (by decide +kernel)
theorem tw_625 : (Cond.instanceMethod yX7_isFit) ∈ lt := lt_in (List.mem_append_right _ (List.mem_of_getElem? (i := 625) (by decide +kernel))) (by decide +kernel)
theorem tw_626 : (Cond.code yX7_isFit cX7_isFit 6 (some .boolean)) ∈ lt := lt_in (List.mem_append_right _ (List.mem_of_getElem? (i := 626) (by decide +kernel))) (by decide +kernel)
theorem tw_627 : (Cond.methodLink RX7 127 yX7_know) ∈ lt := lt_in (List.mem_append_right _ (List.mem_of_getElem? (i := 627) (by decide +kernel))) (by decide +kernel)
theorem tw_629 : (Cond.instanceMethod yX7_know) ∈ lt := lt_in (List.mem_append_right _ (List.mem_of_getElem? (i := 629) (by decide +kernel))) (by decide +kernel)
theorem tw_630 : (Cond.code yX7_know cX7_know 7 none) ∈ lt := lt_in (List.mem_append_right _ (List.mem_of_getElem? (i := 630) (by decide +kernel))) (by decide +kernel)
theorem tw_631 : (Cond.methodLink RX7 131 yX7_put) ∈ lt := lt_in (List.mem_append_right _ (List.mem_of_getElem? (i := 631) (by decide +kernel))) (by decide +kernel)
theorem tw_633 : (Cond.instanceMethod yX7_put) ∈ lt := lt_in (List.mem_append_right _ (List.mem_of_getElem? (i := 633) (by decide +kernel))) (by decide +kernel)
theorem tw_634 : (Cond.code yX7_put cX7_put 5 none) ∈ lt := lt_in (List.mem_append_right _ (List.mem_of_getElem? (i := 634) (by decide +kernel))) (by decide +kernel)
theorem tw_635 : (Cond.methodLink RX7 120 yX7_findEnds) ∈ lt := lt_in (List.mem_append_right _ (List.mem_of_getElem? (i := 635) (by decide +kernel))) (by decide +kernel)
theorem tw_637 : (Cond.instanceMethod yX7_findEnds) ∈ lt := lt_in (List.mem_append_right _ (List.mem_of_getElem? (i := 637) (by decide +kernel))) (by decide +kernel)
theorem tw_638 : (Cond.code yX7_findEnds cX7_findEnds 5 none) ∈ lt := lt_in (List.mem_append_right _ (List.mem_of_getElem? (i := 638) (by decide +kernel))) (by decide +kernel)
theorem tw_639 : (Cond.methodLink RX7 134 yX7_pairs) ∈ lt := lt_in (List.mem_append_right _ (List.mem_of_getElem? (i := 639) (by decide +kernel))) (by decide +kernel)
theorem tw_641 : (Cond.instanceMethod yX7_pairs) ∈ lt := lt_in (List.mem_append_right _ (List.mem_of_getElem? (i := 641) (by decide +kernel))) (by decide +kernel)
theorem tw_642 : (Cond.code yX7_pairs cX7_pairs 7 (some .int)) ∈ lt := lt_in (List.mem_append_right _ (List.mem_of_getElem? (i := 642) (by decide +kernel))) (by decide +kernel)
theorem tw_643 : (Cond.methodLink RX7 141 yX7_firstFalse) ∈ lt := lt_in (List.mem_append_right _ (List.mem_of_getElem? (i := 643) (by decide +kernel))) (by decide +kernel)
theorem tw_645 : (Cond.instanceMethod yX7_firstFalse) ∈ lt := lt_in (List.mem_append_right _ (List.mem_of_getElem? (i := 645) (by decide +kernel))) (by decide +kernel)
theorem tw_646 : (Cond.code yX7_firstFalse cX7_firstFalse 3 (some .int)) ∈ lt := lt_in (List.mem_append_right _ (List.mem_of_getElem? (i := 646) (by decide +kernel))) (by decide +kernel)
theorem tw_647 : (Cond.methodLink RX7 144 yX7_others) ∈ lt := lt_in (List.mem_append_right _ (List.mem_of_getElem? (i := 647) (by decide +kernel))) (by decide +kernel)
theorem tw_649 : (Cond.instanceMethod yX7_others) ∈ lt := lt_in (List.mem_append_right _ (List.mem_of_getElem? (i := 649) (by decide +kernel))) (by decide +kernel)
theorem tw_650 : (Cond.code yX7_others cX7_others 4 (some .int)) ∈ lt := lt_in (List.mem_append_right _ (List.mem_of_getElem? (i := 650) (by decide +kernel))) (by decide +kernel)
theorem tw_651 : (Cond.methodLink RL 42 yX7_attempt) ∈ lt := lt_in (List.mem_append_right _ (List.mem_of_getElem? (i := 651) (by decide +kernel))) (by decide +kernel)
theorem tw_652 : (Cond.instanceMethod yX7_attempt) ∈ lt := lt_in (List.mem_append_right _ (List.mem_of_getElem? (i := 652) (by decide +kernel))) (by decide +kernel)
theorem tw_653 : (Cond.selects RX7 yX7_attempt yX7_attempt) ∈ lt := lt_in (List.mem_append_right _ (List.mem_of_getElem? (i := 653) (by decide +kernel))) (by decide +kernel)
theorem tw_654 : (Cond.code yX7_attempt cX7_attempt 9 (some .long)) ∈ lt := lt_in (List.mem_append_right _ (List.mem_of_getElem? (i := 654) (by decide +kernel))) (by decide +kernel)
theorem tw_655 : (Cond.constantLong RX7 147 (-1)) ∈ lt := lt_in (List.mem_append_right _ (List.mem_of_getElem? (i := 655) (by decide +kernel))) (by decide +kernel)
theorem tw_656 : (Cond.methodLink RX7 149 yX7_scoreOf) ∈ lt := lt_in (List.mem_append_right _ (List.mem_of_getElem? (i := 656) (by decide +kernel))) (by decide +kernel)
theorem tw_658 : (Cond.instanceMethod yX7_scoreOf) ∈ lt := lt_in (List.mem_append_right _ (List.mem_of_getElem? (i := 658) (by decide +kernel))) (by decide +kernel)
theorem tw_659 : (Cond.code yX7_scoreOf cX7_scoreOf 6 (some .long)) ∈ lt := lt_in (List.mem_append_right _ (List.mem_of_getElem? (i := 659) (by decide +kernel))) (by decide +kernel)
theorem tw_660 : (Cond.methodLink RL 46 yX7_undo) ∈ lt := lt_in (List.mem_append_right _ (List.mem_of_getElem? (i := 660) (by decide +kernel))) (by decide +kernel)
theorem tw_661 : (Cond.instanceMethod yX7_undo) ∈ lt := lt_in (List.mem_append_right _ (List.mem_of_getElem? (i := 661) (by decide +kernel))) (by decide +kernel)
theorem tw_662 : (Cond.selects RX7 yX7_undo yX7_undo) ∈ lt := lt_in (List.mem_append_right _ (List.mem_of_getElem? (i := 662) (by decide +kernel))) (by decide +kernel)
theorem tw_663 : (Cond.code yX7_undo cX7_undo 2 (some .int)) ∈ lt := lt_in (List.mem_append_right _ (List.mem_of_getElem? (i := 663) (by decide +kernel))) (by decide +kernel)
theorem tw_664 : (Cond.methodLink RX7 152 yX7_takeBack) ∈ lt := lt_in (List.mem_append_right _ (List.mem_of_getElem? (i := 664) (by decide +kernel))) (by decide +kernel)
theorem tw_666 : (Cond.instanceMethod yX7_takeBack) ∈ lt := lt_in (List.mem_append_right _ (List.mem_of_getElem? (i := 666) (by decide +kernel))) (by decide +kernel)
theorem tw_667 : (Cond.code yX7_takeBack cX7_takeBack 4 none) ∈ lt := lt_in (List.mem_append_right _ (List.mem_of_getElem? (i := 667) (by decide +kernel))) (by decide +kernel)
theorem tw_668 : (Cond.methodLink RL 50 yX7_begin) ∈ lt := lt_in (List.mem_append_right _ (List.mem_of_getElem? (i := 668) (by decide +kernel))) (by decide +kernel)
theorem tw_669 : (Cond.instanceMethod yX7_begin) ∈ lt := lt_in (List.mem_append_right _ (List.mem_of_getElem? (i := 669) (by decide +kernel))) (by decide +kernel)
theorem tw_670 : (Cond.selects RX7 yX7_begin yX7_begin) ∈ lt := lt_in (List.mem_append_right _ (List.mem_of_getElem? (i := 670) (by decide +kernel))) (by decide +kernel)
theorem tw_671 : (Cond.code yX7_begin cX7_begin 2 (some .int)) ∈ lt := lt_in (List.mem_append_right _ (List.mem_of_getElem? (i := 671) (by decide +kernel))) (by decide +kernel)
theorem tw_672 : (Cond.methodLink RL 55 yX7_end) ∈ lt := lt_in (List.mem_append_right _ (List.mem_of_getElem? (i := 672) (by decide +kernel))) (by decide +kernel)
theorem tw_673 : (Cond.instanceMethod yX7_end) ∈ lt := lt_in (List.mem_append_right _ (List.mem_of_getElem? (i := 673) (by decide +kernel))) (by decide +kernel)
theorem tw_674 : (Cond.selects RX7 yX7_end yX7_end) ∈ lt := lt_in (List.mem_append_right _ (List.mem_of_getElem? (i := 674) (by decide +kernel))) (by decide +kernel)
theorem tw_675 : (Cond.code yX7_end cX7_end 4 (some .int)) ∈ lt := lt_in (List.mem_append_right _ (List.mem_of_getElem? (i := 675) (by decide +kernel))) (by decide +kernel)
theorem tw_676 : (Cond.methodLink RL 60 yX7_member) ∈ lt := lt_in (List.mem_append_right _ (List.mem_of_getElem? (i := 676) (by decide +kernel))) (by decide +kernel)
theorem tw_677 : (Cond.instanceMethod yX7_member) ∈ lt := lt_in (List.mem_append_right _ (List.mem_of_getElem? (i := 677) (by decide +kernel))) (by decide +kernel)
theorem tw_678 : (Cond.selects RX7 yX7_member yX7_member) ∈ lt := lt_in (List.mem_append_right _ (List.mem_of_getElem? (i := 678) (by decide +kernel))) (by decide +kernel)
theorem tw_679 : (Cond.code yX7_member cX7_member 4 (some .int)) ∈ lt := lt_in (List.mem_append_right _ (List.mem_of_getElem? (i := 679) (by decide +kernel))) (by decide +kernel)
theorem tw_680 : (Cond.methodLink RL 65 yX7_score) ∈ lt := lt_in (List.mem_append_right _ (List.mem_of_getElem? (i := 680) (by decide +kernel))) (by decide +kernel)
theorem tw_681 : (Cond.instanceMethod yX7_score) ∈ lt := lt_in (List.mem_append_right _ (List.mem_of_getElem? (i := 681) (by decide +kernel))) (by decide +kernel)
theorem tw_682 : (Cond.selects RX7 yX7_score yX7_score) ∈ lt := lt_in (List.mem_append_right _ (List.mem_of_getElem? (i := 682) (by decide +kernel))) (by decide +kernel)
theorem tw_683 : (Cond.code yX7_score cX7_score 3 (some .long)) ∈ lt := lt_in (List.mem_append_right _ (List.mem_of_getElem? (i := 683) (by decide +kernel))) (by decide +kernel)
theorem tw_684 : (Cond.methodLink RL 70 yX7_worth) ∈ lt := lt_in (List.mem_append_right _ (List.mem_of_getElem? (i := 684) (by decide +kernel))) (by decide +kernel)
theorem tw_685 : (Cond.instanceMethod yX7_worth) ∈ lt := lt_in (List.mem_append_right _ (List.mem_of_getElem? (i := 685) (by decide +kernel))) (by decide +kernel)
theorem tw_686 : (Cond.selects RX7 yX7_worth yX7_worth) ∈ lt := lt_in (List.mem_append_right _ (List.mem_of_getElem? (i := 686) (by decide +kernel))) (by decide +kernel)
theorem tw_687 : (Cond.code yX7_worth cX7_worth 4 (some .long)) ∈ lt := lt_in (List.mem_append_right _ (List.mem_of_getElem? (i := 687) (by decide +kernel))) (by decide +kernel)
theorem tw_688 : (Cond.methodLink RL 74 yX7_check) ∈ lt := lt_in (List.mem_append_right _ (List.mem_of_getElem? (i := 688) (by decide +kernel))) (by decide +kernel)
theorem tw_689 : (Cond.instanceMethod yX7_check) ∈ lt := lt_in (List.mem_append_right _ (List.mem_of_getElem? (i := 689) (by decide +kernel))) (by decide +kernel)
theorem tw_690 : (Cond.selects RX7 yX7_check yX7_check) ∈ lt := lt_in (List.mem_append_right _ (List.mem_of_getElem? (i := 690) (by decide +kernel))) (by decide +kernel)
theorem tw_691 : (Cond.code yX7_check cX7_check 2 (some .int)) ∈ lt := lt_in (List.mem_append_right _ (List.mem_of_getElem? (i := 691) (by decide +kernel))) (by decide +kernel)
theorem tw_692 : (Cond.methodLink RL 78 yX7_every) ∈ lt := lt_in (List.mem_append_right _ (List.mem_of_getElem? (i := 692) (by decide +kernel))) (by decide +kernel)
theorem tw_693 : (Cond.instanceMethod yX7_every) ∈ lt := lt_in (List.mem_append_right _ (List.mem_of_getElem? (i := 693) (by decide +kernel))) (by decide +kernel)
theorem tw_694 : (Cond.selects RX7 yX7_every yX7_every) ∈ lt := lt_in (List.mem_append_right _ (List.mem_of_getElem? (i := 694) (by decide +kernel))) (by decide +kernel)
theorem tw_695 : (Cond.code yX7_every cX7_every 3 (some .int)) ∈ lt := lt_in (List.mem_append_right _ (List.mem_of_getElem? (i := 695) (by decide +kernel))) (by decide +kernel)
theorem tw_696 : (Cond.methodLink RL 83 yX7_mend) ∈ lt := lt_in (List.mem_append_right _ (List.mem_of_getElem? (i := 696) (by decide +kernel))) (by decide +kernel)
theorem tw_697 : (Cond.instanceMethod yX7_mend) ∈ lt := lt_in (List.mem_append_right _ (List.mem_of_getElem? (i := 697) (by decide +kernel))) (by decide +kernel)
theorem tw_698 : (Cond.selects RX7 yX7_mend yX7_mend) ∈ lt := lt_in (List.mem_append_right _ (List.mem_of_getElem? (i := 698) (by decide +kernel))) (by decide +kernel)
theorem tw_699 : (Cond.code yX7_mend cX7_mend 6 (some .int)) ∈ lt := lt_in (List.mem_append_right _ (List.mem_of_getElem? (i := 699) (by decide +kernel))) (by decide +kernel)
theorem tw_700 : (Cond.methodLink RL 87 yX7_keep) ∈ lt := lt_in (List.mem_append_right _ (List.mem_of_getElem? (i := 700) (by decide +kernel))) (by decide +kernel)
theorem tw_701 : (Cond.instanceMethod yX7_keep) ∈ lt := lt_in (List.mem_append_right _ (List.mem_of_getElem? (i := 701) (by decide +kernel))) (by decide +kernel)
theorem tw_702 : (Cond.selects RX7 yX7_keep yX7_keep) ∈ lt := lt_in (List.mem_append_right _ (List.mem_of_getElem? (i := 702) (by decide +kernel))) (by decide +kernel)
theorem tw_703 : (Cond.code yX7_keep cX7_keep 3 (some .int)) ∈ lt := lt_in (List.mem_append_right _ (List.mem_of_getElem? (i := 703) (by decide +kernel))) (by decide +kernel)
theorem tw_704 : (Cond.methodLink RL 91 yX7_kept) ∈ lt := lt_in (List.mem_append_right _ (List.mem_of_getElem? (i := 704) (by decide +kernel))) (by decide +kernel)
theorem tw_705 : (Cond.instanceMethod yX7_kept) ∈ lt := lt_in (List.mem_append_right _ (List.mem_of_getElem? (i := 705) (by decide +kernel))) (by decide +kernel)
theorem tw_706 : (Cond.selects RX7 yX7_kept yX7_kept) ∈ lt := lt_in (List.mem_append_right _ (List.mem_of_getElem? (i := 706) (by decide +kernel))) (by decide +kernel)
theorem tw_707 : (Cond.code yX7_kept cX7_kept 3 (some .long)) ∈ lt := lt_in (List.mem_append_right _ (List.mem_of_getElem? (i := 707) (by decide +kernel))) (by decide +kernel)
theorem tw_708 : (Cond.methodLink RL 95 yX7_then) ∈ lt := lt_in (List.mem_append_right _ (List.mem_of_getElem? (i := 708) (by decide +kernel))) (by decide +kernel)
theorem tw_709 : (Cond.instanceMethod yX7_then) ∈ lt := lt_in (List.mem_append_right _ (List.mem_of_getElem? (i := 709) (by decide +kernel))) (by decide +kernel)
theorem tw_710 : (Cond.selects RX7 yX7_then yX7_then) ∈ lt := lt_in (List.mem_append_right _ (List.mem_of_getElem? (i := 710) (by decide +kernel))) (by decide +kernel)
theorem tw_711 : (Cond.code yX7_then cX7_then 4 (some .int)) ∈ lt := lt_in (List.mem_append_right _ (List.mem_of_getElem? (i := 711) (by decide +kernel))) (by decide +kernel)
theorem tw_712 : (Cond.methodLink RL 99 yX7_told) ∈ lt := lt_in (List.mem_append_right _ (List.mem_of_getElem? (i := 712) (by decide +kernel))) (by decide +kernel)
theorem tw_713 : (Cond.instanceMethod yX7_told) ∈ lt := lt_in (List.mem_append_right _ (List.mem_of_getElem? (i := 713) (by decide +kernel))) (by decide +kernel)
theorem tw_714 : (Cond.selects RX7 yX7_told yX7_told) ∈ lt := lt_in (List.mem_append_right _ (List.mem_of_getElem? (i := 714) (by decide +kernel))) (by decide +kernel)
theorem tw_715 : (Cond.code yX7_told cX7_told 5 (some .int)) ∈ lt := lt_in (List.mem_append_right _ (List.mem_of_getElem? (i := 715) (by decide +kernel))) (by decide +kernel)
theorem tw_716 : (Cond.methodLink RL 103 yX7_all) ∈ lt := lt_in (List.mem_append_right _ (List.mem_of_getElem? (i := 716) (by decide +kernel))) (by decide +kernel)
theorem tw_717 : (Cond.instanceMethod yX7_all) ∈ lt := lt_in (List.mem_append_right _ (List.mem_of_getElem? (i := 717) (by decide +kernel))) (by decide +kernel)
theorem tw_718 : (Cond.selects RX7 yX7_all yX7_all) ∈ lt := lt_in (List.mem_append_right _ (List.mem_of_getElem? (i := 718) (by decide +kernel))) (by decide +kernel)
theorem tw_719 : (Cond.code yX7_all cX7_all 2 (some .int)) ∈ lt := lt_in (List.mem_append_right _ (List.mem_of_getElem? (i := 719) (by decide +kernel))) (by decide +kernel)
theorem tp_0 : (Cond.selects RX6 yX6_isSettled yX6_isSettled) ∈ lt := lt_in (List.mem_append_left _ (List.mem_of_getElem? (i := 0) (by decide +kernel))) (by decide +kernel)
theorem tp_1 : (Cond.selects RX1 yX1_gain yX1_gain) ∈ lt := lt_in (List.mem_append_left _ (List.mem_of_getElem? (i := 1) (by decide +kernel))) (by decide +kernel)
theorem tp_2 : (Cond.selects RX2 yX2_eachAbove yX2_eachAbove) ∈ lt := lt_in (List.mem_append_left _ (List.mem_of_getElem? (i := 2) (by decide +kernel))) (by decide +kernel)
theorem tp_3 : (Cond.selects RX2 yX2_crowds yX2_crowds) ∈ lt := lt_in (List.mem_append_left _ (List.mem_of_getElem? (i := 3) (by decide +kernel))) (by decide +kernel)
theorem tp_4 : (Cond.selects RX6 yX6_planAt yX6_planAt) ∈ lt := lt_in (List.mem_append_left _ (List.mem_of_getElem? (i := 4) (by decide +kernel))) (by decide +kernel)
theorem tp_5 : (Cond.selects RX5 yX5_leads yX5_leads) ∈ lt := lt_in (List.mem_append_left _ (List.mem_of_getElem? (i := 5) (by decide +kernel))) (by decide +kernel)
theorem tp_6 : (Cond.selects RX1 yX1_layOut yX1_layOut) ∈ lt := lt_in (List.mem_append_left _ (List.mem_of_getElem? (i := 6) (by decide +kernel))) (by decide +kernel)
theorem tp_7 : (Cond.selects RX1 yX1_gainUnlessForgotten yX1_gainUnlessForgotten) ∈ lt := lt_in (List.mem_append_left _ (List.mem_of_getElem? (i := 7) (by decide +kernel))) (by decide +kernel)
theorem tp_8 : (Cond.selects RX1 yX1_moveOn yX1_moveOn) ∈ lt := lt_in (List.mem_append_left _ (List.mem_of_getElem? (i := 8) (by decide +kernel))) (by decide +kernel)
theorem tp_9 : (Cond.selects RX6 yX6_snapshotAt yX6_snapshotAt) ∈ lt := lt_in (List.mem_append_left _ (List.mem_of_getElem? (i := 9) (by decide +kernel))) (by decide +kernel)
theorem tp_10 : (Cond.selects RX1 yX1_countForgetting yX1_countForgetting) ∈ lt := lt_in (List.mem_append_left _ (List.mem_of_getElem? (i := 10) (by decide +kernel))) (by decide +kernel)
theorem tp_11 : (Cond.selects RX7 yX7_isBegun yX7_isBegun) ∈ lt := lt_in (List.mem_append_left _ (List.mem_of_getElem? (i := 11) (by decide +kernel))) (by decide +kernel)
theorem tp_12 : (Cond.selects RX7 yX7_remember yX7_remember) ∈ lt := lt_in (List.mem_append_left _ (List.mem_of_getElem? (i := 12) (by decide +kernel))) (by decide +kernel)
theorem tp_13 : (Cond.selects RX7 yX7_worthOf yX7_worthOf) ∈ lt := lt_in (List.mem_append_left _ (List.mem_of_getElem? (i := 13) (by decide +kernel))) (by decide +kernel)
theorem tp_14 : (Cond.selects RX7 yX7_at yX7_at) ∈ lt := lt_in (List.mem_append_left _ (List.mem_of_getElem? (i := 14) (by decide +kernel))) (by decide +kernel)
theorem tp_15 : (Cond.selects RX7 yX7_isPlan yX7_isPlan) ∈ lt := lt_in (List.mem_append_left _ (List.mem_of_getElem? (i := 15) (by decide +kernel))) (by decide +kernel)
theorem tp_16 : (Cond.selects RX7 yX7_isRule yX7_isRule) ∈ lt := lt_in (List.mem_append_left _ (List.mem_of_getElem? (i := 16) (by decide +kernel))) (by decide +kernel)
theorem tp_17 : (Cond.selects RX7 yX7_isFit yX7_isFit) ∈ lt := lt_in (List.mem_append_left _ (List.mem_of_getElem? (i := 17) (by decide +kernel))) (by decide +kernel)
theorem tp_18 : (Cond.selects RX7 yX7_know yX7_know) ∈ lt := lt_in (List.mem_append_left _ (List.mem_of_getElem? (i := 18) (by decide +kernel))) (by decide +kernel)
theorem tp_19 : (Cond.selects RX7 yX7_put yX7_put) ∈ lt := lt_in (List.mem_append_left _ (List.mem_of_getElem? (i := 19) (by decide +kernel))) (by decide +kernel)
theorem tp_20 : (Cond.selects RX7 yX7_findEnds yX7_findEnds) ∈ lt := lt_in (List.mem_append_left _ (List.mem_of_getElem? (i := 20) (by decide +kernel))) (by decide +kernel)
theorem tp_21 : (Cond.selects RX7 yX7_pairs yX7_pairs) ∈ lt := lt_in (List.mem_append_left _ (List.mem_of_getElem? (i := 21) (by decide +kernel))) (by decide +kernel)
theorem tp_22 : (Cond.selects RX7 yX7_firstFalse yX7_firstFalse) ∈ lt := lt_in (List.mem_append_left _ (List.mem_of_getElem? (i := 22) (by decide +kernel))) (by decide +kernel)
theorem tp_23 : (Cond.selects RX7 yX7_others yX7_others) ∈ lt := lt_in (List.mem_append_left _ (List.mem_of_getElem? (i := 23) (by decide +kernel))) (by decide +kernel)
theorem tp_24 : (Cond.selects RX7 yX7_scoreOf yX7_scoreOf) ∈ lt := lt_in (List.mem_append_left _ (List.mem_of_getElem? (i := 24) (by decide +kernel))) (by decide +kernel)
theorem tp_25 : (Cond.selects RX7 yX7_takeBack yX7_takeBack) ∈ lt := lt_in (List.mem_append_left _ (List.mem_of_getElem? (i := 25) (by decide +kernel))) (by decide +kernel)
set_option maxRecDepth 20000 in
theorem inT0 : ∀ w ∈ u_ws RX0 TX0 6, w ∈ lt := by decide +kernel
set_option maxRecDepth 20000 in
theorem inT1 : ∀ w ∈ u_ws RX1 TX1 11, w ∈ lt := by decide +kernel
set_option maxRecDepth 20000 in
theorem inT2 : ∀ w ∈ u_ws RX2 TX2 5, w ∈ lt := by decide +kernel
set_option maxRecDepth 20000 in
theorem inT3 : ∀ w ∈ u_ws RX3 TX3 2, w ∈ lt := by decide +kernel
set_option maxRecDepth 20000 in
theorem inT4 : ∀ w ∈ u_ws RX4 TX4 2, w ∈ lt := by decide +kernel
set_option maxRecDepth 20000 in
theorem inT5 : ∀ w ∈ u_ws RX5 TX5 2, w ∈ lt := by decide +kernel
set_option maxRecDepth 20000 in
theorem inT6 : ∀ w ∈ u_ws RX6 TX6 6, w ∈ lt := by decide +kernel
set_option maxRecDepth 20000 in
theorem inT7 : ∀ w ∈ u_ws RX7 TX7 28, w ∈ lt := by decide +kernel
end
section
section LK
variable {p : Program} {l : Launch} {e : Env} {R : Room} {s : State} {m : MethodId} {args : Array Value} {below : List Frame} {meth : Method} {c : Code} {H : Heap} {locs : List Loc} {cells slots : Nat} {Q : State → Prop}
variable {cc : ByteArray} {pc : Nat} {ls : Array Slot} {rest : List Value} {D : va_G} {cy : Nat → ClassId} {z0 : Nat} {ad : Nat → Nat} {V : Nat → Option va_E} {H0 : Heap} {L : Nat}
theorem g_X3_X3_rules (hx : p.tables.exec = Jvm.exec) (hb : c.code = cc) (hown : s.vm.findClass RX3 = some m.cls) (hK : KB D cy s) (hW : HW D z0 ad V H) {v0 v1 : Value} (hV : V L = some (.inr (3, [v0, v1]))) (hdg : decode cc pc = .ok (.getfield 11, 3)) (kk : W p l e R s m args below meth c H locs cells slots Q (F0 m (pc + 3) ls (v0 :: rest))) : W p l e R s m args below meth c H locs cells slots Q (F0 m pc ls (.ref (ad L) :: rest)) :=
  va_get (own := RX3) (ref := "ScoreDifferences$Rulebook") (C := RX3) (T := TX3) (N := 2) (ci := 3) hx hb (hK.1.use args) inT3 hown hK.2 (hW.rd hV) 0 rfl rfl 0 (by decide) (hK.1.use args _ tw_27) (fun _ h9 => h9) rfl hdg kk
theorem p_X3_X3_rules (hx : p.tables.exec = Jvm.exec) (hb : c.code = cc) (hown : s.vm.findClass RX3 = some m.cls) (hin : meth.name = "<init>") (hK : KB D cy s) (hW : HW D z0 ad V H) (hS : va_S (AA z0) H0 H locs) {v0 v1 : Value} {x : Nat} (hV : V L = some (.inr (3, [v0, v1]))) (hdg : decode cc pc = .ok (.putfield 11, 3))
    (kk : ∀ (H1 : Heap) (locs1 : List Loc), HW D z0 ad (va_up V L (some (.inr (3, [.ref x, v1])))) H1 → va_S (AA z0) H0 H1 locs1 → W p l e R s m args below meth c H1 locs1 cells slots Q (F0 m (pc + 3) ls rest)) : W p l e R s m args below meth c H locs cells slots Q (F0 m pc ls (.ref x :: .ref (ad L) :: rest)) := by
  obtain ⟨ws, k, hP, hD, hk, hnew⟩ := hW.wr hV
  exact va_putF (own := RX3) (ref := "ScoreDifferences$Rulebook") (C := RX3) (T := TX3) (N := 2) (ci := 3) (ty := (tyX3 0)) hx hb (hK.1.use args) inT3 tyX3 tyX3_ok nmX3 hown hK.2 hP hD hS k hk rfl 0 (by decide) (hK.1.use args _ tw_27) (fun _ h9 => h9) rfl hin rfl (by decide +kernel) rfl rfl (Nat.le_of_ble_eq_true rfl) hdg (fun H1 locs1 hP1 hD1 hS1 => kk H1 locs1 (hnew _ _ hP1 hD1) hS1)
theorem g_X1_X3_rules (hx : p.tables.exec = Jvm.exec) (hb : c.code = cc) (hown : s.vm.findClass RX1 = some m.cls) (hK : KB D cy s) (hW : HW D z0 ad V H) {v0 v1 : Value} (hV : V L = some (.inr (3, [v0, v1]))) (hdg : decode cc pc = .ok (.getfield 63, 3)) (kk : W p l e R s m args below meth c H locs cells slots Q (F0 m (pc + 3) ls (v0 :: rest))) : W p l e R s m args below meth c H locs cells slots Q (F0 m pc ls (.ref (ad L) :: rest)) :=
  va_getN (own := RX1) (ref := "ScoreDifferences$Rulebook") (C := RX3) (T := TX3) (N := 2) (ci := 3) hx hb (hK.1.use args) inT3 hown hK.2 (hW.rd hV) 0 rfl rfl 0 (by decide) (hK.1.use args _ tw_28) (fun _ h9 => h9) rfl hdg kk
theorem g_X3_X3_size (hx : p.tables.exec = Jvm.exec) (hb : c.code = cc) (hown : s.vm.findClass RX3 = some m.cls) (hK : KB D cy s) (hW : HW D z0 ad V H) {v0 v1 : Value} (hV : V L = some (.inr (3, [v0, v1]))) (hdg : decode cc pc = .ok (.getfield 17, 3)) (kk : W p l e R s m args below meth c H locs cells slots Q (F0 m (pc + 3) ls (v1 :: rest))) : W p l e R s m args below meth c H locs cells slots Q (F0 m pc ls (.ref (ad L) :: rest)) :=
  va_get (own := RX3) (ref := "ScoreDifferences$Rulebook") (C := RX3) (T := TX3) (N := 2) (ci := 3) hx hb (hK.1.use args) inT3 hown hK.2 (hW.rd hV) 0 rfl rfl 1 (by decide) (hK.1.use args _ tw_29) (fun _ h9 => h9) rfl hdg kk
theorem p_X3_X3_size (hx : p.tables.exec = Jvm.exec) (hb : c.code = cc) (hown : s.vm.findClass RX3 = some m.cls) (hK : KB D cy s) (hW : HW D z0 ad V H) (hS : va_S (AA z0) H0 H locs) {v0 v1 : Value} {x : Int32} (hV : V L = some (.inr (3, [v0, v1]))) (hdg : decode cc pc = .ok (.putfield 17, 3))
    (kk : ∀ (H1 : Heap) (locs1 : List Loc), HW D z0 ad (va_up V L (some (.inr (3, [v0, .int x])))) H1 → va_S (AA z0) H0 H1 locs1 → W p l e R s m args below meth c H1 locs1 cells slots Q (F0 m (pc + 3) ls rest)) : W p l e R s m args below meth c H locs cells slots Q (F0 m pc ls (.int x :: .ref (ad L) :: rest)) := by
  obtain ⟨ws, k, hP, hD, hk, hnew⟩ := hW.wr hV
  exact va_put (own := RX3) (ref := "ScoreDifferences$Rulebook") (C := RX3) (T := TX3) (N := 2) (ci := 3) (ty := .int) hx hb (hK.1.use args) inT3 tyX3 tyX3_ok nmX3 hown hK.2 hP hD hS k hk rfl 1 (by decide) (hK.1.use args _ tw_29) (fun _ h9 => h9) rfl (by decide +kernel) rfl rfl (Nat.le_of_ble_eq_true rfl) hdg (fun H1 locs1 hP1 hD1 hS1 => kk H1 locs1 (hnew _ _ hP1 hD1) hS1)
theorem g_X1_X3_size (hx : p.tables.exec = Jvm.exec) (hb : c.code = cc) (hown : s.vm.findClass RX1 = some m.cls) (hK : KB D cy s) (hW : HW D z0 ad V H) {v0 v1 : Value} (hV : V L = some (.inr (3, [v0, v1]))) (hdg : decode cc pc = .ok (.getfield 48, 3)) (kk : W p l e R s m args below meth c H locs cells slots Q (F0 m (pc + 3) ls (v1 :: rest))) : W p l e R s m args below meth c H locs cells slots Q (F0 m pc ls (.ref (ad L) :: rest)) :=
  va_getN (own := RX1) (ref := "ScoreDifferences$Rulebook") (C := RX3) (T := TX3) (N := 2) (ci := 3) hx hb (hK.1.use args) inT3 hown hK.2 (hW.rd hV) 0 rfl rfl 1 (by decide) (hK.1.use args _ tw_30) (fun _ h9 => h9) rfl hdg kk
theorem g_X6_X3_size (hx : p.tables.exec = Jvm.exec) (hb : c.code = cc) (hown : s.vm.findClass RX6 = some m.cls) (hK : KB D cy s) (hW : HW D z0 ad V H) {v0 v1 : Value} (hV : V L = some (.inr (3, [v0, v1]))) (hdg : decode cc pc = .ok (.getfield 56, 3)) (kk : W p l e R s m args below meth c H locs cells slots Q (F0 m (pc + 3) ls (v1 :: rest))) : W p l e R s m args below meth c H locs cells slots Q (F0 m pc ls (.ref (ad L) :: rest)) :=
  va_getN (own := RX6) (ref := "ScoreDifferences$Rulebook") (C := RX3) (T := TX3) (N := 2) (ci := 3) hx hb (hK.1.use args) inT3 hown hK.2 (hW.rd hV) 0 rfl rfl 1 (by decide) (hK.1.use args _ tw_31) (fun _ h9 => h9) rfl hdg kk
theorem g_X5_X5_rows (hx : p.tables.exec = Jvm.exec) (hb : c.code = cc) (hown : s.vm.findClass RX5 = some m.cls) (hK : KB D cy s) (hW : HW D z0 ad V H) {v0 v1 : Value} (hV : V L = some (.inr (5, [v0, v1]))) (hdg : decode cc pc = .ok (.getfield 11, 3)) (kk : W p l e R s m args below meth c H locs cells slots Q (F0 m (pc + 3) ls (v0 :: rest))) : W p l e R s m args below meth c H locs cells slots Q (F0 m pc ls (.ref (ad L) :: rest)) :=
  va_get (own := RX5) (ref := "ScoreDifferences$Table") (C := RX5) (T := TX5) (N := 2) (ci := 5) hx hb (hK.1.use args) inT5 hown hK.2 (hW.rd hV) 0 rfl rfl 0 (by decide) (hK.1.use args _ tw_52) (fun _ h9 => h9) rfl hdg kk
theorem p_X5_X5_rows (hx : p.tables.exec = Jvm.exec) (hb : c.code = cc) (hown : s.vm.findClass RX5 = some m.cls) (hin : meth.name = "<init>") (hK : KB D cy s) (hW : HW D z0 ad V H) (hS : va_S (AA z0) H0 H locs) {v0 v1 : Value} {x : Nat} (hV : V L = some (.inr (5, [v0, v1]))) (hdg : decode cc pc = .ok (.putfield 11, 3))
    (kk : ∀ (H1 : Heap) (locs1 : List Loc), HW D z0 ad (va_up V L (some (.inr (5, [.ref x, v1])))) H1 → va_S (AA z0) H0 H1 locs1 → W p l e R s m args below meth c H1 locs1 cells slots Q (F0 m (pc + 3) ls rest)) : W p l e R s m args below meth c H locs cells slots Q (F0 m pc ls (.ref x :: .ref (ad L) :: rest)) := by
  obtain ⟨ws, k, hP, hD, hk, hnew⟩ := hW.wr hV
  exact va_putF (own := RX5) (ref := "ScoreDifferences$Table") (C := RX5) (T := TX5) (N := 2) (ci := 5) (ty := (tyX5 0)) hx hb (hK.1.use args) inT5 tyX5 tyX5_ok nmX5 hown hK.2 hP hD hS k hk rfl 0 (by decide) (hK.1.use args _ tw_52) (fun _ h9 => h9) rfl hin rfl (by decide +kernel) rfl rfl (Nat.le_of_ble_eq_true rfl) hdg (fun H1 locs1 hP1 hD1 hS1 => kk H1 locs1 (hnew _ _ hP1 hD1) hS1)
theorem g_X2_X5_rows (hx : p.tables.exec = Jvm.exec) (hb : c.code = cc) (hown : s.vm.findClass RX2 = some m.cls) (hK : KB D cy s) (hW : HW D z0 ad V H) {v0 v1 : Value} (hV : V L = some (.inr (5, [v0, v1]))) (hdg : decode cc pc = .ok (.getfield 27, 3)) (kk : W p l e R s m args below meth c H locs cells slots Q (F0 m (pc + 3) ls (v0 :: rest))) : W p l e R s m args below meth c H locs cells slots Q (F0 m pc ls (.ref (ad L) :: rest)) :=
  va_getN (own := RX2) (ref := "ScoreDifferences$Table") (C := RX5) (T := TX5) (N := 2) (ci := 5) hx hb (hK.1.use args) inT5 hown hK.2 (hW.rd hV) 0 rfl rfl 0 (by decide) (hK.1.use args _ tw_53) (fun _ h9 => h9) rfl hdg kk
theorem g_X1_X5_rows (hx : p.tables.exec = Jvm.exec) (hb : c.code = cc) (hown : s.vm.findClass RX1 = some m.cls) (hK : KB D cy s) (hW : HW D z0 ad V H) {v0 v1 : Value} (hV : V L = some (.inr (5, [v0, v1]))) (hdg : decode cc pc = .ok (.getfield 94, 3)) (kk : W p l e R s m args below meth c H locs cells slots Q (F0 m (pc + 3) ls (v0 :: rest))) : W p l e R s m args below meth c H locs cells slots Q (F0 m pc ls (.ref (ad L) :: rest)) :=
  va_getN (own := RX1) (ref := "ScoreDifferences$Table") (C := RX5) (T := TX5) (N := 2) (ci := 5) hx hb (hK.1.use args) inT5 hown hK.2 (hW.rd hV) 0 rfl rfl 0 (by decide) (hK.1.use args _ tw_54) (fun _ h9 => h9) rfl hdg kk
theorem g_X5_X5_objects (hx : p.tables.exec = Jvm.exec) (hb : c.code = cc) (hown : s.vm.findClass RX5 = some m.cls) (hK : KB D cy s) (hW : HW D z0 ad V H) {v0 v1 : Value} (hV : V L = some (.inr (5, [v0, v1]))) (hdg : decode cc pc = .ok (.getfield 16, 3)) (kk : W p l e R s m args below meth c H locs cells slots Q (F0 m (pc + 3) ls (v1 :: rest))) : W p l e R s m args below meth c H locs cells slots Q (F0 m pc ls (.ref (ad L) :: rest)) :=
  va_get (own := RX5) (ref := "ScoreDifferences$Table") (C := RX5) (T := TX5) (N := 2) (ci := 5) hx hb (hK.1.use args) inT5 hown hK.2 (hW.rd hV) 0 rfl rfl 1 (by decide) (hK.1.use args _ tw_55) (fun _ h9 => h9) rfl hdg kk
theorem p_X5_X5_objects (hx : p.tables.exec = Jvm.exec) (hb : c.code = cc) (hown : s.vm.findClass RX5 = some m.cls) (hK : KB D cy s) (hW : HW D z0 ad V H) (hS : va_S (AA z0) H0 H locs) {v0 v1 : Value} {x : Int32} (hV : V L = some (.inr (5, [v0, v1]))) (hdg : decode cc pc = .ok (.putfield 16, 3))
    (kk : ∀ (H1 : Heap) (locs1 : List Loc), HW D z0 ad (va_up V L (some (.inr (5, [v0, .int x])))) H1 → va_S (AA z0) H0 H1 locs1 → W p l e R s m args below meth c H1 locs1 cells slots Q (F0 m (pc + 3) ls rest)) : W p l e R s m args below meth c H locs cells slots Q (F0 m pc ls (.int x :: .ref (ad L) :: rest)) := by
  obtain ⟨ws, k, hP, hD, hk, hnew⟩ := hW.wr hV
  exact va_put (own := RX5) (ref := "ScoreDifferences$Table") (C := RX5) (T := TX5) (N := 2) (ci := 5) (ty := .int) hx hb (hK.1.use args) inT5 tyX5 tyX5_ok nmX5 hown hK.2 hP hD hS k hk rfl 1 (by decide) (hK.1.use args _ tw_55) (fun _ h9 => h9) rfl (by decide +kernel) rfl rfl (Nat.le_of_ble_eq_true rfl) hdg (fun H1 locs1 hP1 hD1 hS1 => kk H1 locs1 (hnew _ _ hP1 hD1) hS1)
theorem g_X2_X5_objects (hx : p.tables.exec = Jvm.exec) (hb : c.code = cc) (hown : s.vm.findClass RX2 = some m.cls) (hK : KB D cy s) (hW : HW D z0 ad V H) {v0 v1 : Value} (hV : V L = some (.inr (5, [v0, v1]))) (hdg : decode cc pc = .ok (.getfield 33, 3)) (kk : W p l e R s m args below meth c H locs cells slots Q (F0 m (pc + 3) ls (v1 :: rest))) : W p l e R s m args below meth c H locs cells slots Q (F0 m pc ls (.ref (ad L) :: rest)) :=
  va_getN (own := RX2) (ref := "ScoreDifferences$Table") (C := RX5) (T := TX5) (N := 2) (ci := 5) hx hb (hK.1.use args) inT5 hown hK.2 (hW.rd hV) 0 rfl rfl 1 (by decide) (hK.1.use args _ tw_56) (fun _ h9 => h9) rfl hdg kk
theorem g_X6_X5_objects (hx : p.tables.exec = Jvm.exec) (hb : c.code = cc) (hown : s.vm.findClass RX6 = some m.cls) (hK : KB D cy s) (hW : HW D z0 ad V H) {v0 v1 : Value} (hV : V L = some (.inr (5, [v0, v1]))) (hdg : decode cc pc = .ok (.getfield 43, 3)) (kk : W p l e R s m args below meth c H locs cells slots Q (F0 m (pc + 3) ls (v1 :: rest))) : W p l e R s m args below meth c H locs cells slots Q (F0 m pc ls (.ref (ad L) :: rest)) :=
  va_getN (own := RX6) (ref := "ScoreDifferences$Table") (C := RX5) (T := TX5) (N := 2) (ci := 5) hx hb (hK.1.use args) inT5 hown hK.2 (hW.rd hV) 0 rfl rfl 1 (by decide) (hK.1.use args _ tw_57) (fun _ h9 => h9) rfl hdg kk
theorem g_X1_X5_objects (hx : p.tables.exec = Jvm.exec) (hb : c.code = cc) (hown : s.vm.findClass RX1 = some m.cls) (hK : KB D cy s) (hW : HW D z0 ad V H) {v0 v1 : Value} (hV : V L = some (.inr (5, [v0, v1]))) (hdg : decode cc pc = .ok (.getfield 60, 3)) (kk : W p l e R s m args below meth c H locs cells slots Q (F0 m (pc + 3) ls (v1 :: rest))) : W p l e R s m args below meth c H locs cells slots Q (F0 m pc ls (.ref (ad L) :: rest)) :=
  va_getN (own := RX1) (ref := "ScoreDifferences$Table") (C := RX5) (T := TX5) (N := 2) (ci := 5) hx hb (hK.1.use args) inT5 hown hK.2 (hW.rd hV) 0 rfl rfl 1 (by decide) (hK.1.use args _ tw_58) (fun _ h9 => h9) rfl hdg kk
theorem g_X0_X0_objects (hx : p.tables.exec = Jvm.exec) (hb : c.code = cc) (hown : s.vm.findClass RX0 = some m.cls) (hK : KB D cy s) (hW : HW D z0 ad V H) {v0 v1 v2 v3 v4 v5 : Value} (hV : V L = some (.inr (0, [v0, v1, v2, v3, v4, v5]))) (hdg : decode cc pc = .ok (.getfield 9, 3)) (kk : W p l e R s m args below meth c H locs cells slots Q (F0 m (pc + 3) ls (v0 :: rest))) : W p l e R s m args below meth c H locs cells slots Q (F0 m pc ls (.ref (ad L) :: rest)) :=
  va_get (own := RX0) (ref := "ScoreDifferences$History") (C := RX0) (T := TX0) (N := 6) (ci := 0) hx hb (hK.1.use args) inT0 hown hK.2 (hW.rd hV) 0 rfl rfl 0 (by decide) (hK.1.use args _ tw_73) (fun _ h9 => h9) rfl hdg kk
theorem p_X0_X0_objects (hx : p.tables.exec = Jvm.exec) (hb : c.code = cc) (hown : s.vm.findClass RX0 = some m.cls) (hin : meth.name = "<init>") (hK : KB D cy s) (hW : HW D z0 ad V H) (hS : va_S (AA z0) H0 H locs) {v0 v1 v2 v3 v4 v5 : Value} {x : Nat} (hV : V L = some (.inr (0, [v0, v1, v2, v3, v4, v5]))) (hdg : decode cc pc = .ok (.putfield 9, 3))
    (kk : ∀ (H1 : Heap) (locs1 : List Loc), HW D z0 ad (va_up V L (some (.inr (0, [.ref x, v1, v2, v3, v4, v5])))) H1 → va_S (AA z0) H0 H1 locs1 → W p l e R s m args below meth c H1 locs1 cells slots Q (F0 m (pc + 3) ls rest)) : W p l e R s m args below meth c H locs cells slots Q (F0 m pc ls (.ref x :: .ref (ad L) :: rest)) := by
  obtain ⟨ws, k, hP, hD, hk, hnew⟩ := hW.wr hV
  exact va_putF (own := RX0) (ref := "ScoreDifferences$History") (C := RX0) (T := TX0) (N := 6) (ci := 0) (ty := (tyX0 0)) hx hb (hK.1.use args) inT0 tyX0 tyX0_ok nmX0 hown hK.2 hP hD hS k hk rfl 0 (by decide) (hK.1.use args _ tw_73) (fun _ h9 => h9) rfl hin rfl (by decide +kernel) rfl rfl (Nat.le_of_ble_eq_true rfl) hdg (fun H1 locs1 hP1 hD1 hS1 => kk H1 locs1 (hnew _ _ hP1 hD1) hS1)
theorem g_X1_X0_objects (hx : p.tables.exec = Jvm.exec) (hb : c.code = cc) (hown : s.vm.findClass RX1 = some m.cls) (hK : KB D cy s) (hW : HW D z0 ad V H) {v0 v1 v2 v3 v4 v5 : Value} (hV : V L = some (.inr (0, [v0, v1, v2, v3, v4, v5]))) (hdg : decode cc pc = .ok (.getfield 135, 3)) (kk : W p l e R s m args below meth c H locs cells slots Q (F0 m (pc + 3) ls (v0 :: rest))) : W p l e R s m args below meth c H locs cells slots Q (F0 m pc ls (.ref (ad L) :: rest)) :=
  va_getN (own := RX1) (ref := "ScoreDifferences$History") (C := RX0) (T := TX0) (N := 6) (ci := 0) hx hb (hK.1.use args) inT0 hown hK.2 (hW.rd hV) 0 rfl rfl 0 (by decide) (hK.1.use args _ tw_74) (fun _ h9 => h9) rfl hdg kk
theorem g_X0_X0_members (hx : p.tables.exec = Jvm.exec) (hb : c.code = cc) (hown : s.vm.findClass RX0 = some m.cls) (hK : KB D cy s) (hW : HW D z0 ad V H) {v0 v1 v2 v3 v4 v5 : Value} (hV : V L = some (.inr (0, [v0, v1, v2, v3, v4, v5]))) (hdg : decode cc pc = .ok (.getfield 15, 3)) (kk : W p l e R s m args below meth c H locs cells slots Q (F0 m (pc + 3) ls (v1 :: rest))) : W p l e R s m args below meth c H locs cells slots Q (F0 m pc ls (.ref (ad L) :: rest)) :=
  va_get (own := RX0) (ref := "ScoreDifferences$History") (C := RX0) (T := TX0) (N := 6) (ci := 0) hx hb (hK.1.use args) inT0 hown hK.2 (hW.rd hV) 0 rfl rfl 1 (by decide) (hK.1.use args _ tw_75) (fun _ h9 => h9) rfl hdg kk
theorem p_X0_X0_members (hx : p.tables.exec = Jvm.exec) (hb : c.code = cc) (hown : s.vm.findClass RX0 = some m.cls) (hin : meth.name = "<init>") (hK : KB D cy s) (hW : HW D z0 ad V H) (hS : va_S (AA z0) H0 H locs) {v0 v1 v2 v3 v4 v5 : Value} {x : Nat} (hV : V L = some (.inr (0, [v0, v1, v2, v3, v4, v5]))) (hdg : decode cc pc = .ok (.putfield 15, 3))
    (kk : ∀ (H1 : Heap) (locs1 : List Loc), HW D z0 ad (va_up V L (some (.inr (0, [v0, .ref x, v2, v3, v4, v5])))) H1 → va_S (AA z0) H0 H1 locs1 → W p l e R s m args below meth c H1 locs1 cells slots Q (F0 m (pc + 3) ls rest)) : W p l e R s m args below meth c H locs cells slots Q (F0 m pc ls (.ref x :: .ref (ad L) :: rest)) := by
  obtain ⟨ws, k, hP, hD, hk, hnew⟩ := hW.wr hV
  exact va_putF (own := RX0) (ref := "ScoreDifferences$History") (C := RX0) (T := TX0) (N := 6) (ci := 0) (ty := (tyX0 1)) hx hb (hK.1.use args) inT0 tyX0 tyX0_ok nmX0 hown hK.2 hP hD hS k hk rfl 1 (by decide) (hK.1.use args _ tw_75) (fun _ h9 => h9) rfl hin rfl (by decide +kernel) rfl rfl (Nat.le_of_ble_eq_true rfl) hdg (fun H1 locs1 hP1 hD1 hS1 => kk H1 locs1 (hnew _ _ hP1 hD1) hS1)
theorem g_X1_X0_members (hx : p.tables.exec = Jvm.exec) (hb : c.code = cc) (hown : s.vm.findClass RX1 = some m.cls) (hK : KB D cy s) (hW : HW D z0 ad V H) {v0 v1 v2 v3 v4 v5 : Value} (hV : V L = some (.inr (0, [v0, v1, v2, v3, v4, v5]))) (hdg : decode cc pc = .ok (.getfield 138, 3)) (kk : W p l e R s m args below meth c H locs cells slots Q (F0 m (pc + 3) ls (v1 :: rest))) : W p l e R s m args below meth c H locs cells slots Q (F0 m pc ls (.ref (ad L) :: rest)) :=
  va_getN (own := RX1) (ref := "ScoreDifferences$History") (C := RX0) (T := TX0) (N := 6) (ci := 0) hx hb (hK.1.use args) inT0 hown hK.2 (hW.rd hV) 0 rfl rfl 1 (by decide) (hK.1.use args _ tw_76) (fun _ h9 => h9) rfl hdg kk
theorem g_X0_X0_numbers (hx : p.tables.exec = Jvm.exec) (hb : c.code = cc) (hown : s.vm.findClass RX0 = some m.cls) (hK : KB D cy s) (hW : HW D z0 ad V H) {v0 v1 v2 v3 v4 v5 : Value} (hV : V L = some (.inr (0, [v0, v1, v2, v3, v4, v5]))) (hdg : decode cc pc = .ok (.getfield 18, 3)) (kk : W p l e R s m args below meth c H locs cells slots Q (F0 m (pc + 3) ls (v2 :: rest))) : W p l e R s m args below meth c H locs cells slots Q (F0 m pc ls (.ref (ad L) :: rest)) :=
  va_get (own := RX0) (ref := "ScoreDifferences$History") (C := RX0) (T := TX0) (N := 6) (ci := 0) hx hb (hK.1.use args) inT0 hown hK.2 (hW.rd hV) 0 rfl rfl 2 (by decide) (hK.1.use args _ tw_77) (fun _ h9 => h9) rfl hdg kk
theorem p_X0_X0_numbers (hx : p.tables.exec = Jvm.exec) (hb : c.code = cc) (hown : s.vm.findClass RX0 = some m.cls) (hin : meth.name = "<init>") (hK : KB D cy s) (hW : HW D z0 ad V H) (hS : va_S (AA z0) H0 H locs) {v0 v1 v2 v3 v4 v5 : Value} {x : Nat} (hV : V L = some (.inr (0, [v0, v1, v2, v3, v4, v5]))) (hdg : decode cc pc = .ok (.putfield 18, 3))
    (kk : ∀ (H1 : Heap) (locs1 : List Loc), HW D z0 ad (va_up V L (some (.inr (0, [v0, v1, .ref x, v3, v4, v5])))) H1 → va_S (AA z0) H0 H1 locs1 → W p l e R s m args below meth c H1 locs1 cells slots Q (F0 m (pc + 3) ls rest)) : W p l e R s m args below meth c H locs cells slots Q (F0 m pc ls (.ref x :: .ref (ad L) :: rest)) := by
  obtain ⟨ws, k, hP, hD, hk, hnew⟩ := hW.wr hV
  exact va_putF (own := RX0) (ref := "ScoreDifferences$History") (C := RX0) (T := TX0) (N := 6) (ci := 0) (ty := (tyX0 2)) hx hb (hK.1.use args) inT0 tyX0 tyX0_ok nmX0 hown hK.2 hP hD hS k hk rfl 2 (by decide) (hK.1.use args _ tw_77) (fun _ h9 => h9) rfl hin rfl (by decide +kernel) rfl rfl (Nat.le_of_ble_eq_true rfl) hdg (fun H1 locs1 hP1 hD1 hS1 => kk H1 locs1 (hnew _ _ hP1 hD1) hS1)
theorem g_X1_X0_numbers (hx : p.tables.exec = Jvm.exec) (hb : c.code = cc) (hown : s.vm.findClass RX1 = some m.cls) (hK : KB D cy s) (hW : HW D z0 ad V H) {v0 v1 v2 v3 v4 v5 : Value} (hV : V L = some (.inr (0, [v0, v1, v2, v3, v4, v5]))) (hdg : decode cc pc = .ok (.getfield 141, 3)) (kk : W p l e R s m args below meth c H locs cells slots Q (F0 m (pc + 3) ls (v2 :: rest))) : W p l e R s m args below meth c H locs cells slots Q (F0 m pc ls (.ref (ad L) :: rest)) :=
  va_getN (own := RX1) (ref := "ScoreDifferences$History") (C := RX0) (T := TX0) (N := 6) (ci := 0) hx hb (hK.1.use args) inT0 hown hK.2 (hW.rd hV) 0 rfl rfl 2 (by decide) (hK.1.use args _ tw_78) (fun _ h9 => h9) rfl hdg kk
theorem g_X0_X0_keptAt (hx : p.tables.exec = Jvm.exec) (hb : c.code = cc) (hown : s.vm.findClass RX0 = some m.cls) (hK : KB D cy s) (hW : HW D z0 ad V H) {v0 v1 v2 v3 v4 v5 : Value} (hV : V L = some (.inr (0, [v0, v1, v2, v3, v4, v5]))) (hdg : decode cc pc = .ok (.getfield 23, 3)) (kk : W p l e R s m args below meth c H locs cells slots Q (F0 m (pc + 3) ls (v3 :: rest))) : W p l e R s m args below meth c H locs cells slots Q (F0 m pc ls (.ref (ad L) :: rest)) :=
  va_get (own := RX0) (ref := "ScoreDifferences$History") (C := RX0) (T := TX0) (N := 6) (ci := 0) hx hb (hK.1.use args) inT0 hown hK.2 (hW.rd hV) 0 rfl rfl 3 (by decide) (hK.1.use args _ tw_79) (fun _ h9 => h9) rfl hdg kk
theorem p_X0_X0_keptAt (hx : p.tables.exec = Jvm.exec) (hb : c.code = cc) (hown : s.vm.findClass RX0 = some m.cls) (hin : meth.name = "<init>") (hK : KB D cy s) (hW : HW D z0 ad V H) (hS : va_S (AA z0) H0 H locs) {v0 v1 v2 v3 v4 v5 : Value} {x : Nat} (hV : V L = some (.inr (0, [v0, v1, v2, v3, v4, v5]))) (hdg : decode cc pc = .ok (.putfield 23, 3))
    (kk : ∀ (H1 : Heap) (locs1 : List Loc), HW D z0 ad (va_up V L (some (.inr (0, [v0, v1, v2, .ref x, v4, v5])))) H1 → va_S (AA z0) H0 H1 locs1 → W p l e R s m args below meth c H1 locs1 cells slots Q (F0 m (pc + 3) ls rest)) : W p l e R s m args below meth c H locs cells slots Q (F0 m pc ls (.ref x :: .ref (ad L) :: rest)) := by
  obtain ⟨ws, k, hP, hD, hk, hnew⟩ := hW.wr hV
  exact va_putF (own := RX0) (ref := "ScoreDifferences$History") (C := RX0) (T := TX0) (N := 6) (ci := 0) (ty := (tyX0 3)) hx hb (hK.1.use args) inT0 tyX0 tyX0_ok nmX0 hown hK.2 hP hD hS k hk rfl 3 (by decide) (hK.1.use args _ tw_79) (fun _ h9 => h9) rfl hin rfl (by decide +kernel) rfl rfl (Nat.le_of_ble_eq_true rfl) hdg (fun H1 locs1 hP1 hD1 hS1 => kk H1 locs1 (hnew _ _ hP1 hD1) hS1)
theorem g_X1_X0_keptAt (hx : p.tables.exec = Jvm.exec) (hb : c.code = cc) (hown : s.vm.findClass RX1 = some m.cls) (hK : KB D cy s) (hW : HW D z0 ad V H) {v0 v1 v2 v3 v4 v5 : Value} (hV : V L = some (.inr (0, [v0, v1, v2, v3, v4, v5]))) (hdg : decode cc pc = .ok (.getfield 144, 3)) (kk : W p l e R s m args below meth c H locs cells slots Q (F0 m (pc + 3) ls (v3 :: rest))) : W p l e R s m args below meth c H locs cells slots Q (F0 m pc ls (.ref (ad L) :: rest)) :=
  va_getN (own := RX1) (ref := "ScoreDifferences$History") (C := RX0) (T := TX0) (N := 6) (ci := 0) hx hb (hK.1.use args) inT0 hown hK.2 (hW.rd hV) 0 rfl rfl 3 (by decide) (hK.1.use args _ tw_80) (fun _ h9 => h9) rfl hdg kk
theorem g_X0_X0_next (hx : p.tables.exec = Jvm.exec) (hb : c.code = cc) (hown : s.vm.findClass RX0 = some m.cls) (hK : KB D cy s) (hW : HW D z0 ad V H) {v0 v1 v2 v3 v4 v5 : Value} (hV : V L = some (.inr (0, [v0, v1, v2, v3, v4, v5]))) (hdg : decode cc pc = .ok (.getfield 26, 3)) (kk : W p l e R s m args below meth c H locs cells slots Q (F0 m (pc + 3) ls (v4 :: rest))) : W p l e R s m args below meth c H locs cells slots Q (F0 m pc ls (.ref (ad L) :: rest)) :=
  va_get (own := RX0) (ref := "ScoreDifferences$History") (C := RX0) (T := TX0) (N := 6) (ci := 0) hx hb (hK.1.use args) inT0 hown hK.2 (hW.rd hV) 0 rfl rfl 4 (by decide) (hK.1.use args _ tw_81) (fun _ h9 => h9) rfl hdg kk
theorem p_X0_X0_next (hx : p.tables.exec = Jvm.exec) (hb : c.code = cc) (hown : s.vm.findClass RX0 = some m.cls) (hK : KB D cy s) (hW : HW D z0 ad V H) (hS : va_S (AA z0) H0 H locs) {v0 v1 v2 v3 v4 v5 : Value} {x : Int32} (hV : V L = some (.inr (0, [v0, v1, v2, v3, v4, v5]))) (hdg : decode cc pc = .ok (.putfield 26, 3))
    (kk : ∀ (H1 : Heap) (locs1 : List Loc), HW D z0 ad (va_up V L (some (.inr (0, [v0, v1, v2, v3, .int x, v5])))) H1 → va_S (AA z0) H0 H1 locs1 → W p l e R s m args below meth c H1 locs1 cells slots Q (F0 m (pc + 3) ls rest)) : W p l e R s m args below meth c H locs cells slots Q (F0 m pc ls (.int x :: .ref (ad L) :: rest)) := by
  obtain ⟨ws, k, hP, hD, hk, hnew⟩ := hW.wr hV
  exact va_put (own := RX0) (ref := "ScoreDifferences$History") (C := RX0) (T := TX0) (N := 6) (ci := 0) (ty := .int) hx hb (hK.1.use args) inT0 tyX0 tyX0_ok nmX0 hown hK.2 hP hD hS k hk rfl 4 (by decide) (hK.1.use args _ tw_81) (fun _ h9 => h9) rfl (by decide +kernel) rfl rfl (Nat.le_of_ble_eq_true rfl) hdg (fun H1 locs1 hP1 hD1 hS1 => kk H1 locs1 (hnew _ _ hP1 hD1) hS1)
theorem g_X0_X0_known (hx : p.tables.exec = Jvm.exec) (hb : c.code = cc) (hown : s.vm.findClass RX0 = some m.cls) (hK : KB D cy s) (hW : HW D z0 ad V H) {v0 v1 v2 v3 v4 v5 : Value} (hV : V L = some (.inr (0, [v0, v1, v2, v3, v4, v5]))) (hdg : decode cc pc = .ok (.getfield 36, 3)) (kk : W p l e R s m args below meth c H locs cells slots Q (F0 m (pc + 3) ls (v5 :: rest))) : W p l e R s m args below meth c H locs cells slots Q (F0 m pc ls (.ref (ad L) :: rest)) :=
  va_get (own := RX0) (ref := "ScoreDifferences$History") (C := RX0) (T := TX0) (N := 6) (ci := 0) hx hb (hK.1.use args) inT0 hown hK.2 (hW.rd hV) 0 rfl rfl 5 (by decide) (hK.1.use args _ tw_82) (fun _ h9 => h9) rfl hdg kk
theorem p_X0_X0_known (hx : p.tables.exec = Jvm.exec) (hb : c.code = cc) (hown : s.vm.findClass RX0 = some m.cls) (hK : KB D cy s) (hW : HW D z0 ad V H) (hS : va_S (AA z0) H0 H locs) {v0 v1 v2 v3 v4 v5 : Value} {x : Int32} (hV : V L = some (.inr (0, [v0, v1, v2, v3, v4, v5]))) (hdg : decode cc pc = .ok (.putfield 36, 3))
    (kk : ∀ (H1 : Heap) (locs1 : List Loc), HW D z0 ad (va_up V L (some (.inr (0, [v0, v1, v2, v3, v4, .int x])))) H1 → va_S (AA z0) H0 H1 locs1 → W p l e R s m args below meth c H1 locs1 cells slots Q (F0 m (pc + 3) ls rest)) : W p l e R s m args below meth c H locs cells slots Q (F0 m pc ls (.int x :: .ref (ad L) :: rest)) := by
  obtain ⟨ws, k, hP, hD, hk, hnew⟩ := hW.wr hV
  exact va_put (own := RX0) (ref := "ScoreDifferences$History") (C := RX0) (T := TX0) (N := 6) (ci := 0) (ty := .int) hx hb (hK.1.use args) inT0 tyX0 tyX0_ok nmX0 hown hK.2 hP hD hS k hk rfl 5 (by decide) (hK.1.use args _ tw_82) (fun _ h9 => h9) rfl (by decide +kernel) rfl rfl (Nat.le_of_ble_eq_true rfl) hdg (fun H1 locs1 hP1 hD1 hS1 => kk H1 locs1 (hnew _ _ hP1 hD1) hS1)
theorem g_X6_X0_known (hx : p.tables.exec = Jvm.exec) (hb : c.code = cc) (hown : s.vm.findClass RX6 = some m.cls) (hK : KB D cy s) (hW : HW D z0 ad V H) {v0 v1 v2 v3 v4 v5 : Value} (hV : V L = some (.inr (0, [v0, v1, v2, v3, v4, v5]))) (hdg : decode cc pc = .ok (.getfield 122, 3)) (kk : W p l e R s m args below meth c H locs cells slots Q (F0 m (pc + 3) ls (v5 :: rest))) : W p l e R s m args below meth c H locs cells slots Q (F0 m pc ls (.ref (ad L) :: rest)) :=
  va_getN (own := RX6) (ref := "ScoreDifferences$History") (C := RX0) (T := TX0) (N := 6) (ci := 0) hx hb (hK.1.use args) inT0 hown hK.2 (hW.rd hV) 0 rfl rfl 5 (by decide) (hK.1.use args _ tw_83) (fun _ h9 => h9) rfl hdg kk
theorem g_X1_X0_known (hx : p.tables.exec = Jvm.exec) (hb : c.code = cc) (hown : s.vm.findClass RX1 = some m.cls) (hK : KB D cy s) (hW : HW D z0 ad V H) {v0 v1 v2 v3 v4 v5 : Value} (hV : V L = some (.inr (0, [v0, v1, v2, v3, v4, v5]))) (hdg : decode cc pc = .ok (.getfield 129, 3)) (kk : W p l e R s m args below meth c H locs cells slots Q (F0 m (pc + 3) ls (v5 :: rest))) : W p l e R s m args below meth c H locs cells slots Q (F0 m pc ls (.ref (ad L) :: rest)) :=
  va_getN (own := RX1) (ref := "ScoreDifferences$History") (C := RX0) (T := TX0) (N := 6) (ci := 0) hx hb (hK.1.use args) inT0 hown hK.2 (hW.rd hV) 0 rfl rfl 5 (by decide) (hK.1.use args _ tw_84) (fun _ h9 => h9) rfl hdg kk
theorem g_X1_X1_book (hx : p.tables.exec = Jvm.exec) (hb : c.code = cc) (hown : s.vm.findClass RX1 = some m.cls) (hK : KB D cy s) (hW : HW D z0 ad V H) {v0 v1 v2 v3 v4 v5 v6 v7 v8 v9 v10 : Value} (hV : V L = some (.inr (1, [v0, v1, v2, v3, v4, v5, v6, v7, v8, v9, v10]))) (hdg : decode cc pc = .ok (.getfield 40, 3)) (kk : W p l e R s m args below meth c H locs cells slots Q (F0 m (pc + 3) ls (v0 :: rest))) : W p l e R s m args below meth c H locs cells slots Q (F0 m pc ls (.ref (ad L) :: rest)) :=
  va_get (own := RX1) (ref := "ScoreDifferences$Plan") (C := RX1) (T := TX1) (N := 11) (ci := 1) hx hb (hK.1.use args) inT1 hown hK.2 (hW.rd hV) 0 rfl rfl 0 (by decide) (hK.1.use args _ tw_100) (fun _ h9 => h9) rfl hdg kk
theorem p_X1_X1_book (hx : p.tables.exec = Jvm.exec) (hb : c.code = cc) (hown : s.vm.findClass RX1 = some m.cls) (hin : meth.name = "<init>") (hK : KB D cy s) (hW : HW D z0 ad V H) (hS : va_S (AA z0) H0 H locs) {v0 v1 v2 v3 v4 v5 v6 v7 v8 v9 v10 : Value} {x : Nat} (hV : V L = some (.inr (1, [v0, v1, v2, v3, v4, v5, v6, v7, v8, v9, v10]))) (hdg : decode cc pc = .ok (.putfield 40, 3))
    (kk : ∀ (H1 : Heap) (locs1 : List Loc), HW D z0 ad (va_up V L (some (.inr (1, [.ref x, v1, v2, v3, v4, v5, v6, v7, v8, v9, v10])))) H1 → va_S (AA z0) H0 H1 locs1 → W p l e R s m args below meth c H1 locs1 cells slots Q (F0 m (pc + 3) ls rest)) : W p l e R s m args below meth c H locs cells slots Q (F0 m pc ls (.ref x :: .ref (ad L) :: rest)) := by
  obtain ⟨ws, k, hP, hD, hk, hnew⟩ := hW.wr hV
  exact va_putF (own := RX1) (ref := "ScoreDifferences$Plan") (C := RX1) (T := TX1) (N := 11) (ci := 1) (ty := (tyX1 0)) hx hb (hK.1.use args) inT1 tyX1 tyX1_ok nmX1 hown hK.2 hP hD hS k hk rfl 0 (by decide) (hK.1.use args _ tw_100) (fun _ h9 => h9) rfl hin rfl (by decide +kernel) rfl rfl (Nat.le_of_ble_eq_true rfl) hdg (fun H1 locs1 hP1 hD1 hS1 => kk H1 locs1 (hnew _ _ hP1 hD1) hS1)
theorem g_X1_X1_now (hx : p.tables.exec = Jvm.exec) (hb : c.code = cc) (hown : s.vm.findClass RX1 = some m.cls) (hK : KB D cy s) (hW : HW D z0 ad V H) {v0 v1 v2 v3 v4 v5 v6 v7 v8 v9 v10 : Value} (hV : V L = some (.inr (1, [v0, v1, v2, v3, v4, v5, v6, v7, v8, v9, v10]))) (hdg : decode cc pc = .ok (.getfield 12, 3)) (kk : W p l e R s m args below meth c H locs cells slots Q (F0 m (pc + 3) ls (v1 :: rest))) : W p l e R s m args below meth c H locs cells slots Q (F0 m pc ls (.ref (ad L) :: rest)) :=
  va_get (own := RX1) (ref := "ScoreDifferences$Plan") (C := RX1) (T := TX1) (N := 11) (ci := 1) hx hb (hK.1.use args) inT1 hown hK.2 (hW.rd hV) 0 rfl rfl 1 (by decide) (hK.1.use args _ tw_101) (fun _ h9 => h9) rfl hdg kk
theorem p_X1_X1_now (hx : p.tables.exec = Jvm.exec) (hb : c.code = cc) (hown : s.vm.findClass RX1 = some m.cls) (hin : meth.name = "<init>") (hK : KB D cy s) (hW : HW D z0 ad V H) (hS : va_S (AA z0) H0 H locs) {v0 v1 v2 v3 v4 v5 v6 v7 v8 v9 v10 : Value} {x : Nat} (hV : V L = some (.inr (1, [v0, v1, v2, v3, v4, v5, v6, v7, v8, v9, v10]))) (hdg : decode cc pc = .ok (.putfield 12, 3))
    (kk : ∀ (H1 : Heap) (locs1 : List Loc), HW D z0 ad (va_up V L (some (.inr (1, [v0, .ref x, v2, v3, v4, v5, v6, v7, v8, v9, v10])))) H1 → va_S (AA z0) H0 H1 locs1 → W p l e R s m args below meth c H1 locs1 cells slots Q (F0 m (pc + 3) ls rest)) : W p l e R s m args below meth c H locs cells slots Q (F0 m pc ls (.ref x :: .ref (ad L) :: rest)) := by
  obtain ⟨ws, k, hP, hD, hk, hnew⟩ := hW.wr hV
  exact va_putF (own := RX1) (ref := "ScoreDifferences$Plan") (C := RX1) (T := TX1) (N := 11) (ci := 1) (ty := (tyX1 1)) hx hb (hK.1.use args) inT1 tyX1 tyX1_ok nmX1 hown hK.2 hP hD hS k hk rfl 1 (by decide) (hK.1.use args _ tw_101) (fun _ h9 => h9) rfl hin rfl (by decide +kernel) rfl rfl (Nat.le_of_ble_eq_true rfl) hdg (fun H1 locs1 hP1 hD1 hS1 => kk H1 locs1 (hnew _ _ hP1 hD1) hS1)
theorem g_X4_X1_now (hx : p.tables.exec = Jvm.exec) (hb : c.code = cc) (hown : s.vm.findClass RX4 = some m.cls) (hK : KB D cy s) (hW : HW D z0 ad V H) {v0 v1 v2 v3 v4 v5 v6 v7 v8 v9 v10 : Value} (hV : V L = some (.inr (1, [v0, v1, v2, v3, v4, v5, v6, v7, v8, v9, v10]))) (hdg : decode cc pc = .ok (.getfield 22, 3)) (kk : W p l e R s m args below meth c H locs cells slots Q (F0 m (pc + 3) ls (v1 :: rest))) : W p l e R s m args below meth c H locs cells slots Q (F0 m pc ls (.ref (ad L) :: rest)) :=
  va_getN (own := RX4) (ref := "ScoreDifferences$Plan") (C := RX1) (T := TX1) (N := 11) (ci := 1) hx hb (hK.1.use args) inT1 hown hK.2 (hW.rd hV) 0 rfl rfl 1 (by decide) (hK.1.use args _ tw_102) (fun _ h9 => h9) rfl hdg kk
theorem g_X6_X1_now (hx : p.tables.exec = Jvm.exec) (hb : c.code = cc) (hown : s.vm.findClass RX6 = some m.cls) (hK : KB D cy s) (hW : HW D z0 ad V H) {v0 v1 v2 v3 v4 v5 v6 v7 v8 v9 v10 : Value} (hV : V L = some (.inr (1, [v0, v1, v2, v3, v4, v5, v6, v7, v8, v9, v10]))) (hdg : decode cc pc = .ok (.getfield 39, 3)) (kk : W p l e R s m args below meth c H locs cells slots Q (F0 m (pc + 3) ls (v1 :: rest))) : W p l e R s m args below meth c H locs cells slots Q (F0 m pc ls (.ref (ad L) :: rest)) :=
  va_getN (own := RX6) (ref := "ScoreDifferences$Plan") (C := RX1) (T := TX1) (N := 11) (ci := 1) hx hb (hK.1.use args) inT1 hown hK.2 (hW.rd hV) 0 rfl rfl 1 (by decide) (hK.1.use args _ tw_103) (fun _ h9 => h9) rfl hdg kk
theorem g_X1_X1_behind (hx : p.tables.exec = Jvm.exec) (hb : c.code = cc) (hown : s.vm.findClass RX1 = some m.cls) (hK : KB D cy s) (hW : HW D z0 ad V H) {v0 v1 v2 v3 v4 v5 v6 v7 v8 v9 v10 : Value} (hV : V L = some (.inr (1, [v0, v1, v2, v3, v4, v5, v6, v7, v8, v9, v10]))) (hdg : decode cc pc = .ok (.getfield 18, 3)) (kk : W p l e R s m args below meth c H locs cells slots Q (F0 m (pc + 3) ls (v2 :: rest))) : W p l e R s m args below meth c H locs cells slots Q (F0 m pc ls (.ref (ad L) :: rest)) :=
  va_get (own := RX1) (ref := "ScoreDifferences$Plan") (C := RX1) (T := TX1) (N := 11) (ci := 1) hx hb (hK.1.use args) inT1 hown hK.2 (hW.rd hV) 0 rfl rfl 2 (by decide) (hK.1.use args _ tw_104) (fun _ h9 => h9) rfl hdg kk
theorem p_X1_X1_behind (hx : p.tables.exec = Jvm.exec) (hb : c.code = cc) (hown : s.vm.findClass RX1 = some m.cls) (hin : meth.name = "<init>") (hK : KB D cy s) (hW : HW D z0 ad V H) (hS : va_S (AA z0) H0 H locs) {v0 v1 v2 v3 v4 v5 v6 v7 v8 v9 v10 : Value} {x : Nat} (hV : V L = some (.inr (1, [v0, v1, v2, v3, v4, v5, v6, v7, v8, v9, v10]))) (hdg : decode cc pc = .ok (.putfield 18, 3))
    (kk : ∀ (H1 : Heap) (locs1 : List Loc), HW D z0 ad (va_up V L (some (.inr (1, [v0, v1, .ref x, v3, v4, v5, v6, v7, v8, v9, v10])))) H1 → va_S (AA z0) H0 H1 locs1 → W p l e R s m args below meth c H1 locs1 cells slots Q (F0 m (pc + 3) ls rest)) : W p l e R s m args below meth c H locs cells slots Q (F0 m pc ls (.ref x :: .ref (ad L) :: rest)) := by
  obtain ⟨ws, k, hP, hD, hk, hnew⟩ := hW.wr hV
  exact va_putF (own := RX1) (ref := "ScoreDifferences$Plan") (C := RX1) (T := TX1) (N := 11) (ci := 1) (ty := (tyX1 2)) hx hb (hK.1.use args) inT1 tyX1 tyX1_ok nmX1 hown hK.2 hP hD hS k hk rfl 2 (by decide) (hK.1.use args _ tw_104) (fun _ h9 => h9) rfl hin rfl (by decide +kernel) rfl rfl (Nat.le_of_ble_eq_true rfl) hdg (fun H1 locs1 hP1 hD1 hS1 => kk H1 locs1 (hnew _ _ hP1 hD1) hS1)
theorem g_X1_X1_keptAt (hx : p.tables.exec = Jvm.exec) (hb : c.code = cc) (hown : s.vm.findClass RX1 = some m.cls) (hK : KB D cy s) (hW : HW D z0 ad V H) {v0 v1 v2 v3 v4 v5 v6 v7 v8 v9 v10 : Value} (hV : V L = some (.inr (1, [v0, v1, v2, v3, v4, v5, v6, v7, v8, v9, v10]))) (hdg : decode cc pc = .ok (.getfield 21, 3)) (kk : W p l e R s m args below meth c H locs cells slots Q (F0 m (pc + 3) ls (v3 :: rest))) : W p l e R s m args below meth c H locs cells slots Q (F0 m pc ls (.ref (ad L) :: rest)) :=
  va_get (own := RX1) (ref := "ScoreDifferences$Plan") (C := RX1) (T := TX1) (N := 11) (ci := 1) hx hb (hK.1.use args) inT1 hown hK.2 (hW.rd hV) 0 rfl rfl 3 (by decide) (hK.1.use args _ tw_105) (fun _ h9 => h9) rfl hdg kk
theorem p_X1_X1_keptAt (hx : p.tables.exec = Jvm.exec) (hb : c.code = cc) (hown : s.vm.findClass RX1 = some m.cls) (hin : meth.name = "<init>") (hK : KB D cy s) (hW : HW D z0 ad V H) (hS : va_S (AA z0) H0 H locs) {v0 v1 v2 v3 v4 v5 v6 v7 v8 v9 v10 : Value} {x : Nat} (hV : V L = some (.inr (1, [v0, v1, v2, v3, v4, v5, v6, v7, v8, v9, v10]))) (hdg : decode cc pc = .ok (.putfield 21, 3))
    (kk : ∀ (H1 : Heap) (locs1 : List Loc), HW D z0 ad (va_up V L (some (.inr (1, [v0, v1, v2, .ref x, v4, v5, v6, v7, v8, v9, v10])))) H1 → va_S (AA z0) H0 H1 locs1 → W p l e R s m args below meth c H1 locs1 cells slots Q (F0 m (pc + 3) ls rest)) : W p l e R s m args below meth c H locs cells slots Q (F0 m pc ls (.ref x :: .ref (ad L) :: rest)) := by
  obtain ⟨ws, k, hP, hD, hk, hnew⟩ := hW.wr hV
  exact va_putF (own := RX1) (ref := "ScoreDifferences$Plan") (C := RX1) (T := TX1) (N := 11) (ci := 1) (ty := (tyX1 3)) hx hb (hK.1.use args) inT1 tyX1 tyX1_ok nmX1 hown hK.2 hP hD hS k hk rfl 3 (by decide) (hK.1.use args _ tw_105) (fun _ h9 => h9) rfl hin rfl (by decide +kernel) rfl rfl (Nat.le_of_ble_eq_true rfl) hdg (fun H1 locs1 hP1 hD1 hS1 => kk H1 locs1 (hnew _ _ hP1 hD1) hS1)
theorem g_X6_X1_keptAt (hx : p.tables.exec = Jvm.exec) (hb : c.code = cc) (hown : s.vm.findClass RX6 = some m.cls) (hK : KB D cy s) (hW : HW D z0 ad V H) {v0 v1 v2 v3 v4 v5 v6 v7 v8 v9 v10 : Value} (hV : V L = some (.inr (1, [v0, v1, v2, v3, v4, v5, v6, v7, v8, v9, v10]))) (hdg : decode cc pc = .ok (.getfield 68, 3)) (kk : W p l e R s m args below meth c H locs cells slots Q (F0 m (pc + 3) ls (v3 :: rest))) : W p l e R s m args below meth c H locs cells slots Q (F0 m pc ls (.ref (ad L) :: rest)) :=
  va_getN (own := RX6) (ref := "ScoreDifferences$Plan") (C := RX1) (T := TX1) (N := 11) (ci := 1) hx hb (hK.1.use args) inT1 hown hK.2 (hW.rd hV) 0 rfl rfl 3 (by decide) (hK.1.use args _ tw_106) (fun _ h9 => h9) rfl hdg kk
theorem g_X1_X1_forgets (hx : p.tables.exec = Jvm.exec) (hb : c.code = cc) (hown : s.vm.findClass RX1 = some m.cls) (hK : KB D cy s) (hW : HW D z0 ad V H) {v0 v1 v2 v3 v4 v5 v6 v7 v8 v9 v10 : Value} (hV : V L = some (.inr (1, [v0, v1, v2, v3, v4, v5, v6, v7, v8, v9, v10]))) (hdg : decode cc pc = .ok (.getfield 25, 3)) (kk : W p l e R s m args below meth c H locs cells slots Q (F0 m (pc + 3) ls (v4 :: rest))) : W p l e R s m args below meth c H locs cells slots Q (F0 m pc ls (.ref (ad L) :: rest)) :=
  va_get (own := RX1) (ref := "ScoreDifferences$Plan") (C := RX1) (T := TX1) (N := 11) (ci := 1) hx hb (hK.1.use args) inT1 hown hK.2 (hW.rd hV) 0 rfl rfl 4 (by decide) (hK.1.use args _ tw_107) (fun _ h9 => h9) rfl hdg kk
theorem p_X1_X1_forgets (hx : p.tables.exec = Jvm.exec) (hb : c.code = cc) (hown : s.vm.findClass RX1 = some m.cls) (hin : meth.name = "<init>") (hK : KB D cy s) (hW : HW D z0 ad V H) (hS : va_S (AA z0) H0 H locs) {v0 v1 v2 v3 v4 v5 v6 v7 v8 v9 v10 : Value} {x : Nat} (hV : V L = some (.inr (1, [v0, v1, v2, v3, v4, v5, v6, v7, v8, v9, v10]))) (hdg : decode cc pc = .ok (.putfield 25, 3))
    (kk : ∀ (H1 : Heap) (locs1 : List Loc), HW D z0 ad (va_up V L (some (.inr (1, [v0, v1, v2, v3, .ref x, v5, v6, v7, v8, v9, v10])))) H1 → va_S (AA z0) H0 H1 locs1 → W p l e R s m args below meth c H1 locs1 cells slots Q (F0 m (pc + 3) ls rest)) : W p l e R s m args below meth c H locs cells slots Q (F0 m pc ls (.ref x :: .ref (ad L) :: rest)) := by
  obtain ⟨ws, k, hP, hD, hk, hnew⟩ := hW.wr hV
  exact va_putF (own := RX1) (ref := "ScoreDifferences$Plan") (C := RX1) (T := TX1) (N := 11) (ci := 1) (ty := (tyX1 4)) hx hb (hK.1.use args) inT1 tyX1 tyX1_ok nmX1 hown hK.2 hP hD hS k hk rfl 4 (by decide) (hK.1.use args _ tw_107) (fun _ h9 => h9) rfl hin rfl (by decide +kernel) rfl rfl (Nat.le_of_ble_eq_true rfl) hdg (fun H1 locs1 hP1 hD1 hS1 => kk H1 locs1 (hnew _ _ hP1 hD1) hS1)
theorem g_X6_X1_forgets (hx : p.tables.exec = Jvm.exec) (hb : c.code = cc) (hown : s.vm.findClass RX6 = some m.cls) (hK : KB D cy s) (hW : HW D z0 ad V H) {v0 v1 v2 v3 v4 v5 v6 v7 v8 v9 v10 : Value} (hV : V L = some (.inr (1, [v0, v1, v2, v3, v4, v5, v6, v7, v8, v9, v10]))) (hdg : decode cc pc = .ok (.getfield 84, 3)) (kk : W p l e R s m args below meth c H locs cells slots Q (F0 m (pc + 3) ls (v4 :: rest))) : W p l e R s m args below meth c H locs cells slots Q (F0 m pc ls (.ref (ad L) :: rest)) :=
  va_getN (own := RX6) (ref := "ScoreDifferences$Plan") (C := RX1) (T := TX1) (N := 11) (ci := 1) hx hb (hK.1.use args) inT1 hown hK.2 (hW.rd hV) 0 rfl rfl 4 (by decide) (hK.1.use args _ tw_108) (fun _ h9 => h9) rfl hdg kk
theorem g_X1_X1_history (hx : p.tables.exec = Jvm.exec) (hb : c.code = cc) (hown : s.vm.findClass RX1 = some m.cls) (hK : KB D cy s) (hW : HW D z0 ad V H) {v0 v1 v2 v3 v4 v5 v6 v7 v8 v9 v10 : Value} (hV : V L = some (.inr (1, [v0, v1, v2, v3, v4, v5, v6, v7, v8, v9, v10]))) (hdg : decode cc pc = .ok (.getfield 32, 3)) (kk : W p l e R s m args below meth c H locs cells slots Q (F0 m (pc + 3) ls (v5 :: rest))) : W p l e R s m args below meth c H locs cells slots Q (F0 m pc ls (.ref (ad L) :: rest)) :=
  va_get (own := RX1) (ref := "ScoreDifferences$Plan") (C := RX1) (T := TX1) (N := 11) (ci := 1) hx hb (hK.1.use args) inT1 hown hK.2 (hW.rd hV) 0 rfl rfl 5 (by decide) (hK.1.use args _ tw_109) (fun _ h9 => h9) rfl hdg kk
theorem p_X1_X1_history (hx : p.tables.exec = Jvm.exec) (hb : c.code = cc) (hown : s.vm.findClass RX1 = some m.cls) (hin : meth.name = "<init>") (hK : KB D cy s) (hW : HW D z0 ad V H) (hS : va_S (AA z0) H0 H locs) {v0 v1 v2 v3 v4 v5 v6 v7 v8 v9 v10 : Value} {x : Nat} (hV : V L = some (.inr (1, [v0, v1, v2, v3, v4, v5, v6, v7, v8, v9, v10]))) (hdg : decode cc pc = .ok (.putfield 32, 3))
    (kk : ∀ (H1 : Heap) (locs1 : List Loc), HW D z0 ad (va_up V L (some (.inr (1, [v0, v1, v2, v3, v4, .ref x, v6, v7, v8, v9, v10])))) H1 → va_S (AA z0) H0 H1 locs1 → W p l e R s m args below meth c H1 locs1 cells slots Q (F0 m (pc + 3) ls rest)) : W p l e R s m args below meth c H locs cells slots Q (F0 m pc ls (.ref x :: .ref (ad L) :: rest)) := by
  obtain ⟨ws, k, hP, hD, hk, hnew⟩ := hW.wr hV
  exact va_putF (own := RX1) (ref := "ScoreDifferences$Plan") (C := RX1) (T := TX1) (N := 11) (ci := 1) (ty := (tyX1 5)) hx hb (hK.1.use args) inT1 tyX1 tyX1_ok nmX1 hown hK.2 hP hD hS k hk rfl 5 (by decide) (hK.1.use args _ tw_109) (fun _ h9 => h9) rfl hin rfl (by decide +kernel) rfl rfl (Nat.le_of_ble_eq_true rfl) hdg (fun H1 locs1 hP1 hD1 hS1 => kk H1 locs1 (hnew _ _ hP1 hD1) hS1)
theorem g_X6_X1_history (hx : p.tables.exec = Jvm.exec) (hb : c.code = cc) (hown : s.vm.findClass RX6 = some m.cls) (hK : KB D cy s) (hW : HW D z0 ad V H) {v0 v1 v2 v3 v4 v5 v6 v7 v8 v9 v10 : Value} (hV : V L = some (.inr (1, [v0, v1, v2, v3, v4, v5, v6, v7, v8, v9, v10]))) (hdg : decode cc pc = .ok (.getfield 118, 3)) (kk : W p l e R s m args below meth c H locs cells slots Q (F0 m (pc + 3) ls (v5 :: rest))) : W p l e R s m args below meth c H locs cells slots Q (F0 m pc ls (.ref (ad L) :: rest)) :=
  va_getN (own := RX6) (ref := "ScoreDifferences$Plan") (C := RX1) (T := TX1) (N := 11) (ci := 1) hx hb (hK.1.use args) inT1 hown hK.2 (hW.rd hV) 0 rfl rfl 5 (by decide) (hK.1.use args _ tw_110) (fun _ h9 => h9) rfl hdg kk
theorem g_X1_X1_changes (hx : p.tables.exec = Jvm.exec) (hb : c.code = cc) (hown : s.vm.findClass RX1 = some m.cls) (hK : KB D cy s) (hW : HW D z0 ad V H) {v0 v1 v2 v3 v4 v5 v6 v7 v8 v9 v10 : Value} (hV : V L = some (.inr (1, [v0, v1, v2, v3, v4, v5, v6, v7, v8, v9, v10]))) (hdg : decode cc pc = .ok (.getfield 122, 3)) (kk : W p l e R s m args below meth c H locs cells slots Q (F0 m (pc + 3) ls (v6 :: rest))) : W p l e R s m args below meth c H locs cells slots Q (F0 m pc ls (.ref (ad L) :: rest)) :=
  va_get (own := RX1) (ref := "ScoreDifferences$Plan") (C := RX1) (T := TX1) (N := 11) (ci := 1) hx hb (hK.1.use args) inT1 hown hK.2 (hW.rd hV) 0 rfl rfl 6 (by decide) (hK.1.use args _ tw_111) (fun _ h9 => h9) rfl hdg kk
theorem p_X1_X1_changes (hx : p.tables.exec = Jvm.exec) (hb : c.code = cc) (hown : s.vm.findClass RX1 = some m.cls) (hK : KB D cy s) (hW : HW D z0 ad V H) (hS : va_S (AA z0) H0 H locs) {v0 v1 v2 v3 v4 v5 v6 v7 v8 v9 v10 : Value} {x : Int32} (hV : V L = some (.inr (1, [v0, v1, v2, v3, v4, v5, v6, v7, v8, v9, v10]))) (hdg : decode cc pc = .ok (.putfield 122, 3))
    (kk : ∀ (H1 : Heap) (locs1 : List Loc), HW D z0 ad (va_up V L (some (.inr (1, [v0, v1, v2, v3, v4, v5, .int x, v7, v8, v9, v10])))) H1 → va_S (AA z0) H0 H1 locs1 → W p l e R s m args below meth c H1 locs1 cells slots Q (F0 m (pc + 3) ls rest)) : W p l e R s m args below meth c H locs cells slots Q (F0 m pc ls (.int x :: .ref (ad L) :: rest)) := by
  obtain ⟨ws, k, hP, hD, hk, hnew⟩ := hW.wr hV
  exact va_put (own := RX1) (ref := "ScoreDifferences$Plan") (C := RX1) (T := TX1) (N := 11) (ci := 1) (ty := .int) hx hb (hK.1.use args) inT1 tyX1 tyX1_ok nmX1 hown hK.2 hP hD hS k hk rfl 6 (by decide) (hK.1.use args _ tw_111) (fun _ h9 => h9) rfl (by decide +kernel) rfl rfl (Nat.le_of_ble_eq_true rfl) hdg (fun H1 locs1 hP1 hD1 hS1 => kk H1 locs1 (hnew _ _ hP1 hD1) hS1)
theorem g_X6_X1_changes (hx : p.tables.exec = Jvm.exec) (hb : c.code = cc) (hown : s.vm.findClass RX6 = some m.cls) (hK : KB D cy s) (hW : HW D z0 ad V H) {v0 v1 v2 v3 v4 v5 v6 v7 v8 v9 v10 : Value} (hV : V L = some (.inr (1, [v0, v1, v2, v3, v4, v5, v6, v7, v8, v9, v10]))) (hdg : decode cc pc = .ok (.getfield 174, 3)) (kk : W p l e R s m args below meth c H locs cells slots Q (F0 m (pc + 3) ls (v6 :: rest))) : W p l e R s m args below meth c H locs cells slots Q (F0 m pc ls (.ref (ad L) :: rest)) :=
  va_getN (own := RX6) (ref := "ScoreDifferences$Plan") (C := RX1) (T := TX1) (N := 11) (ci := 1) hx hb (hK.1.use args) inT1 hown hK.2 (hW.rd hV) 0 rfl rfl 6 (by decide) (hK.1.use args _ tw_112) (fun _ h9 => h9) rfl hdg kk
theorem g_X1_X1_cost (hx : p.tables.exec = Jvm.exec) (hb : c.code = cc) (hown : s.vm.findClass RX1 = some m.cls) (hK : KB D cy s) (hW : HW D z0 ad V H) {v0 v1 v2 v3 v4 v5 v6 v7 v8 v9 v10 : Value} (hV : V L = some (.inr (1, [v0, v1, v2, v3, v4, v5, v6, v7, v8, v9, v10]))) (hdg : decode cc pc = .ok (.getfield 156, 3)) (kk : W p l e R s m args below meth c H locs cells slots Q (F0 m (pc + 3) ls (v7 :: rest))) : W p l e R s m args below meth c H locs cells slots Q (F0 m pc ls (.ref (ad L) :: rest)) :=
  va_get (own := RX1) (ref := "ScoreDifferences$Plan") (C := RX1) (T := TX1) (N := 11) (ci := 1) hx hb (hK.1.use args) inT1 hown hK.2 (hW.rd hV) 0 rfl rfl 7 (by decide) (hK.1.use args _ tw_113) (fun _ h9 => h9) rfl hdg kk
theorem p_X1_X1_cost (hx : p.tables.exec = Jvm.exec) (hb : c.code = cc) (hown : s.vm.findClass RX1 = some m.cls) (hK : KB D cy s) (hW : HW D z0 ad V H) (hS : va_S (AA z0) H0 H locs) {v0 v1 v2 v3 v4 v5 v6 v7 v8 v9 v10 : Value} {x : Int32} (hV : V L = some (.inr (1, [v0, v1, v2, v3, v4, v5, v6, v7, v8, v9, v10]))) (hdg : decode cc pc = .ok (.putfield 156, 3))
    (kk : ∀ (H1 : Heap) (locs1 : List Loc), HW D z0 ad (va_up V L (some (.inr (1, [v0, v1, v2, v3, v4, v5, v6, .int x, v8, v9, v10])))) H1 → va_S (AA z0) H0 H1 locs1 → W p l e R s m args below meth c H1 locs1 cells slots Q (F0 m (pc + 3) ls rest)) : W p l e R s m args below meth c H locs cells slots Q (F0 m pc ls (.int x :: .ref (ad L) :: rest)) := by
  obtain ⟨ws, k, hP, hD, hk, hnew⟩ := hW.wr hV
  exact va_put (own := RX1) (ref := "ScoreDifferences$Plan") (C := RX1) (T := TX1) (N := 11) (ci := 1) (ty := .int) hx hb (hK.1.use args) inT1 tyX1 tyX1_ok nmX1 hown hK.2 hP hD hS k hk rfl 7 (by decide) (hK.1.use args _ tw_113) (fun _ h9 => h9) rfl (by decide +kernel) rfl rfl (Nat.le_of_ble_eq_true rfl) hdg (fun H1 locs1 hP1 hD1 hS1 => kk H1 locs1 (hnew _ _ hP1 hD1) hS1)
theorem g_X1_X1_foundFalse (hx : p.tables.exec = Jvm.exec) (hb : c.code = cc) (hown : s.vm.findClass RX1 = some m.cls) (hK : KB D cy s) (hW : HW D z0 ad V H) {v0 v1 v2 v3 v4 v5 v6 v7 v8 v9 v10 : Value} (hV : V L = some (.inr (1, [v0, v1, v2, v3, v4, v5, v6, v7, v8, v9, v10]))) (hdg : decode cc pc = .ok (.getfield 36, 3)) (kk : W p l e R s m args below meth c H locs cells slots Q (F0 m (pc + 3) ls (v8 :: rest))) : W p l e R s m args below meth c H locs cells slots Q (F0 m pc ls (.ref (ad L) :: rest)) :=
  va_get (own := RX1) (ref := "ScoreDifferences$Plan") (C := RX1) (T := TX1) (N := 11) (ci := 1) hx hb (hK.1.use args) inT1 hown hK.2 (hW.rd hV) 0 rfl rfl 8 (by decide) (hK.1.use args _ tw_114) (fun _ h9 => h9) rfl hdg kk
theorem p_X1_X1_foundFalse (hx : p.tables.exec = Jvm.exec) (hb : c.code = cc) (hown : s.vm.findClass RX1 = some m.cls) (hK : KB D cy s) (hW : HW D z0 ad V H) (hS : va_S (AA z0) H0 H locs) {v0 v1 v2 v3 v4 v5 v6 v7 v8 v9 v10 : Value} {x : Int32} (hV : V L = some (.inr (1, [v0, v1, v2, v3, v4, v5, v6, v7, v8, v9, v10]))) (hdg : decode cc pc = .ok (.putfield 36, 3))
    (kk : ∀ (H1 : Heap) (locs1 : List Loc), HW D z0 ad (va_up V L (some (.inr (1, [v0, v1, v2, v3, v4, v5, v6, v7, .int x, v9, v10])))) H1 → va_S (AA z0) H0 H1 locs1 → W p l e R s m args below meth c H1 locs1 cells slots Q (F0 m (pc + 3) ls rest)) : W p l e R s m args below meth c H locs cells slots Q (F0 m pc ls (.int x :: .ref (ad L) :: rest)) := by
  obtain ⟨ws, k, hP, hD, hk, hnew⟩ := hW.wr hV
  exact va_put (own := RX1) (ref := "ScoreDifferences$Plan") (C := RX1) (T := TX1) (N := 11) (ci := 1) (ty := .int) hx hb (hK.1.use args) inT1 tyX1 tyX1_ok nmX1 hown hK.2 hP hD hS k hk rfl 8 (by decide) (hK.1.use args _ tw_114) (fun _ h9 => h9) rfl (by decide +kernel) rfl rfl (Nat.le_of_ble_eq_true rfl) hdg (fun H1 locs1 hP1 hD1 hS1 => kk H1 locs1 (hnew _ _ hP1 hD1) hS1)
theorem g_X6_X1_batchBegun (hx : p.tables.exec = Jvm.exec) (hb : c.code = cc) (hown : s.vm.findClass RX6 = some m.cls) (hK : KB D cy s) (hW : HW D z0 ad V H) {v0 v1 v2 v3 v4 v5 v6 v7 v8 v9 v10 : Value} (hV : V L = some (.inr (1, [v0, v1, v2, v3, v4, v5, v6, v7, v8, v9, v10]))) (hdg : decode cc pc = .ok (.getfield 127, 3)) (kk : W p l e R s m args below meth c H locs cells slots Q (F0 m (pc + 3) ls (v9 :: rest))) : W p l e R s m args below meth c H locs cells slots Q (F0 m pc ls (.ref (ad L) :: rest)) :=
  va_getN (own := RX6) (ref := "ScoreDifferences$Plan") (C := RX1) (T := TX1) (N := 11) (ci := 1) hx hb (hK.1.use args) inT1 hown hK.2 (hW.rd hV) 0 rfl rfl 9 (by decide) (hK.1.use args _ tw_115) (fun _ h9 => h9) rfl hdg kk
theorem p_X6_X1_batchBegun (hx : p.tables.exec = Jvm.exec) (hb : c.code = cc) (hown : s.vm.findClass RX6 = some m.cls) (hK : KB D cy s) (hW : HW D z0 ad V H) (hS : va_S (AA z0) H0 H locs) {v0 v1 v2 v3 v4 v5 v6 v7 v8 v9 v10 : Value} {x : Int32} (hV : V L = some (.inr (1, [v0, v1, v2, v3, v4, v5, v6, v7, v8, v9, v10]))) (hn : narrow .boolean (.int x) = .int x) (hf : fits .boolean (.int x) = true) (hdg : decode cc pc = .ok (.putfield 127, 3))
    (kk : ∀ (H1 : Heap) (locs1 : List Loc), HW D z0 ad (va_up V L (some (.inr (1, [v0, v1, v2, v3, v4, v5, v6, v7, v8, .int x, v10])))) H1 → va_S (AA z0) H0 H1 locs1 → W p l e R s m args below meth c H1 locs1 cells slots Q (F0 m (pc + 3) ls rest)) : W p l e R s m args below meth c H locs cells slots Q (F0 m pc ls (.int x :: .ref (ad L) :: rest)) := by
  obtain ⟨ws, k, hP, hD, hk, hnew⟩ := hW.wr hV
  exact va_putN (own := RX6) (ref := "ScoreDifferences$Plan") (C := RX1) (T := TX1) (N := 11) (ci := 1) (ty := .boolean) hx hb (hK.1.use args) inT1 tyX1 tyX1_ok nmX1 hown hK.2 hP hD hS k hk rfl 9 (by decide) (hK.1.use args _ tw_115) (fun _ h9 => h9) rfl (by decide +kernel) hn hf (Nat.le_of_ble_eq_true rfl) hdg (fun H1 locs1 hP1 hD1 hS1 => kk H1 locs1 (hnew _ _ hP1 hD1) hS1)
theorem g_X1_X1_batchBegun (hx : p.tables.exec = Jvm.exec) (hb : c.code = cc) (hown : s.vm.findClass RX1 = some m.cls) (hK : KB D cy s) (hW : HW D z0 ad V H) {v0 v1 v2 v3 v4 v5 v6 v7 v8 v9 v10 : Value} (hV : V L = some (.inr (1, [v0, v1, v2, v3, v4, v5, v6, v7, v8, v9, v10]))) (hdg : decode cc pc = .ok (.getfield 102, 3)) (kk : W p l e R s m args below meth c H locs cells slots Q (F0 m (pc + 3) ls (v9 :: rest))) : W p l e R s m args below meth c H locs cells slots Q (F0 m pc ls (.ref (ad L) :: rest)) :=
  va_get (own := RX1) (ref := "ScoreDifferences$Plan") (C := RX1) (T := TX1) (N := 11) (ci := 1) hx hb (hK.1.use args) inT1 hown hK.2 (hW.rd hV) 0 rfl rfl 9 (by decide) (hK.1.use args _ tw_116) (fun _ h9 => h9) rfl hdg kk
theorem p_X1_X1_batchBegun (hx : p.tables.exec = Jvm.exec) (hb : c.code = cc) (hown : s.vm.findClass RX1 = some m.cls) (hK : KB D cy s) (hW : HW D z0 ad V H) (hS : va_S (AA z0) H0 H locs) {v0 v1 v2 v3 v4 v5 v6 v7 v8 v9 v10 : Value} {x : Int32} (hV : V L = some (.inr (1, [v0, v1, v2, v3, v4, v5, v6, v7, v8, v9, v10]))) (hn : narrow .boolean (.int x) = .int x) (hf : fits .boolean (.int x) = true) (hdg : decode cc pc = .ok (.putfield 102, 3))
    (kk : ∀ (H1 : Heap) (locs1 : List Loc), HW D z0 ad (va_up V L (some (.inr (1, [v0, v1, v2, v3, v4, v5, v6, v7, v8, .int x, v10])))) H1 → va_S (AA z0) H0 H1 locs1 → W p l e R s m args below meth c H1 locs1 cells slots Q (F0 m (pc + 3) ls rest)) : W p l e R s m args below meth c H locs cells slots Q (F0 m pc ls (.int x :: .ref (ad L) :: rest)) := by
  obtain ⟨ws, k, hP, hD, hk, hnew⟩ := hW.wr hV
  exact va_put (own := RX1) (ref := "ScoreDifferences$Plan") (C := RX1) (T := TX1) (N := 11) (ci := 1) (ty := .boolean) hx hb (hK.1.use args) inT1 tyX1 tyX1_ok nmX1 hown hK.2 hP hD hS k hk rfl 9 (by decide) (hK.1.use args _ tw_116) (fun _ h9 => h9) rfl (by decide +kernel) hn hf (Nat.le_of_ble_eq_true rfl) hdg (fun H1 locs1 hP1 hD1 hS1 => kk H1 locs1 (hnew _ _ hP1 hD1) hS1)
theorem g_X6_X1_batchKnown (hx : p.tables.exec = Jvm.exec) (hb : c.code = cc) (hown : s.vm.findClass RX6 = some m.cls) (hK : KB D cy s) (hW : HW D z0 ad V H) {v0 v1 v2 v3 v4 v5 v6 v7 v8 v9 v10 : Value} (hV : V L = some (.inr (1, [v0, v1, v2, v3, v4, v5, v6, v7, v8, v9, v10]))) (hdg : decode cc pc = .ok (.getfield 131, 3)) (kk : W p l e R s m args below meth c H locs cells slots Q (F0 m (pc + 3) ls (v10 :: rest))) : W p l e R s m args below meth c H locs cells slots Q (F0 m pc ls (.ref (ad L) :: rest)) :=
  va_getN (own := RX6) (ref := "ScoreDifferences$Plan") (C := RX1) (T := TX1) (N := 11) (ci := 1) hx hb (hK.1.use args) inT1 hown hK.2 (hW.rd hV) 0 rfl rfl 10 (by decide) (hK.1.use args _ tw_117) (fun _ h9 => h9) rfl hdg kk
theorem p_X6_X1_batchKnown (hx : p.tables.exec = Jvm.exec) (hb : c.code = cc) (hown : s.vm.findClass RX6 = some m.cls) (hK : KB D cy s) (hW : HW D z0 ad V H) (hS : va_S (AA z0) H0 H locs) {v0 v1 v2 v3 v4 v5 v6 v7 v8 v9 v10 : Value} {x : Int32} (hV : V L = some (.inr (1, [v0, v1, v2, v3, v4, v5, v6, v7, v8, v9, v10]))) (hdg : decode cc pc = .ok (.putfield 131, 3))
    (kk : ∀ (H1 : Heap) (locs1 : List Loc), HW D z0 ad (va_up V L (some (.inr (1, [v0, v1, v2, v3, v4, v5, v6, v7, v8, v9, .int x])))) H1 → va_S (AA z0) H0 H1 locs1 → W p l e R s m args below meth c H1 locs1 cells slots Q (F0 m (pc + 3) ls rest)) : W p l e R s m args below meth c H locs cells slots Q (F0 m pc ls (.int x :: .ref (ad L) :: rest)) := by
  obtain ⟨ws, k, hP, hD, hk, hnew⟩ := hW.wr hV
  exact va_putN (own := RX6) (ref := "ScoreDifferences$Plan") (C := RX1) (T := TX1) (N := 11) (ci := 1) (ty := .int) hx hb (hK.1.use args) inT1 tyX1 tyX1_ok nmX1 hown hK.2 hP hD hS k hk rfl 10 (by decide) (hK.1.use args _ tw_117) (fun _ h9 => h9) rfl (by decide +kernel) rfl rfl (Nat.le_of_ble_eq_true rfl) hdg (fun H1 locs1 hP1 hD1 hS1 => kk H1 locs1 (hnew _ _ hP1 hD1) hS1)
theorem g_X1_X1_batchKnown (hx : p.tables.exec = Jvm.exec) (hb : c.code = cc) (hown : s.vm.findClass RX1 = some m.cls) (hK : KB D cy s) (hW : HW D z0 ad V H) {v0 v1 v2 v3 v4 v5 v6 v7 v8 v9 v10 : Value} (hV : V L = some (.inr (1, [v0, v1, v2, v3, v4, v5, v6, v7, v8, v9, v10]))) (hdg : decode cc pc = .ok (.getfield 106, 3)) (kk : W p l e R s m args below meth c H locs cells slots Q (F0 m (pc + 3) ls (v10 :: rest))) : W p l e R s m args below meth c H locs cells slots Q (F0 m pc ls (.ref (ad L) :: rest)) :=
  va_get (own := RX1) (ref := "ScoreDifferences$Plan") (C := RX1) (T := TX1) (N := 11) (ci := 1) hx hb (hK.1.use args) inT1 hown hK.2 (hW.rd hV) 0 rfl rfl 10 (by decide) (hK.1.use args _ tw_118) (fun _ h9 => h9) rfl hdg kk
theorem p_X1_X1_batchKnown (hx : p.tables.exec = Jvm.exec) (hb : c.code = cc) (hown : s.vm.findClass RX1 = some m.cls) (hK : KB D cy s) (hW : HW D z0 ad V H) (hS : va_S (AA z0) H0 H locs) {v0 v1 v2 v3 v4 v5 v6 v7 v8 v9 v10 : Value} {x : Int32} (hV : V L = some (.inr (1, [v0, v1, v2, v3, v4, v5, v6, v7, v8, v9, v10]))) (hdg : decode cc pc = .ok (.putfield 106, 3))
    (kk : ∀ (H1 : Heap) (locs1 : List Loc), HW D z0 ad (va_up V L (some (.inr (1, [v0, v1, v2, v3, v4, v5, v6, v7, v8, v9, .int x])))) H1 → va_S (AA z0) H0 H1 locs1 → W p l e R s m args below meth c H1 locs1 cells slots Q (F0 m (pc + 3) ls rest)) : W p l e R s m args below meth c H locs cells slots Q (F0 m pc ls (.int x :: .ref (ad L) :: rest)) := by
  obtain ⟨ws, k, hP, hD, hk, hnew⟩ := hW.wr hV
  exact va_put (own := RX1) (ref := "ScoreDifferences$Plan") (C := RX1) (T := TX1) (N := 11) (ci := 1) (ty := .int) hx hb (hK.1.use args) inT1 tyX1 tyX1_ok nmX1 hown hK.2 hP hD hS k hk rfl 10 (by decide) (hK.1.use args _ tw_118) (fun _ h9 => h9) rfl (by decide +kernel) rfl rfl (Nat.le_of_ble_eq_true rfl) hdg (fun H1 locs1 hP1 hD1 hS1 => kk H1 locs1 (hnew _ _ hP1 hD1) hS1)
theorem g_X6_X6_book (hx : p.tables.exec = Jvm.exec) (hb : c.code = cc) (hown : s.vm.findClass RX6 = some m.cls) (hK : KB D cy s) (hW : HW D z0 ad V H) {v0 v1 v2 v3 v4 v5 : Value} (hV : V L = some (.inr (6, [v0, v1, v2, v3, v4, v5]))) (hdg : decode cc pc = .ok (.getfield 10, 3)) (kk : W p l e R s m args below meth c H locs cells slots Q (F0 m (pc + 3) ls (v0 :: rest))) : W p l e R s m args below meth c H locs cells slots Q (F0 m pc ls (.ref (ad L) :: rest)) :=
  va_get (own := RX6) (ref := "ScoreDifferences") (C := RX6) (T := TX6) (N := 6) (ci := 6) hx hb (hK.1.use args) inT6 hown hK.2 (hW.rd hV) 0 rfl rfl 0 (by decide) (hK.1.use args _ tw_144) (fun _ h9 => h9) rfl hdg kk
theorem p_X6_X6_book (hx : p.tables.exec = Jvm.exec) (hb : c.code = cc) (hown : s.vm.findClass RX6 = some m.cls) (hin : meth.name = "<init>") (hK : KB D cy s) (hW : HW D z0 ad V H) (hS : va_S (AA z0) H0 H locs) {v0 v1 v2 v3 v4 v5 : Value} {x : Nat} (hV : V L = some (.inr (6, [v0, v1, v2, v3, v4, v5]))) (hdg : decode cc pc = .ok (.putfield 10, 3))
    (kk : ∀ (H1 : Heap) (locs1 : List Loc), HW D z0 ad (va_up V L (some (.inr (6, [.ref x, v1, v2, v3, v4, v5])))) H1 → va_S (AA z0) H0 H1 locs1 → W p l e R s m args below meth c H1 locs1 cells slots Q (F0 m (pc + 3) ls rest)) : W p l e R s m args below meth c H locs cells slots Q (F0 m pc ls (.ref x :: .ref (ad L) :: rest)) := by
  obtain ⟨ws, k, hP, hD, hk, hnew⟩ := hW.wr hV
  exact va_putF (own := RX6) (ref := "ScoreDifferences") (C := RX6) (T := TX6) (N := 6) (ci := 6) (ty := (tyX6 0)) hx hb (hK.1.use args) inT6 tyX6 tyX6_ok nmX6 hown hK.2 hP hD hS k hk rfl 0 (by decide) (hK.1.use args _ tw_144) (fun _ h9 => h9) rfl hin rfl (by decide +kernel) rfl rfl (Nat.le_of_ble_eq_true rfl) hdg (fun H1 locs1 hP1 hD1 hS1 => kk H1 locs1 (hnew _ _ hP1 hD1) hS1)
theorem g_X6_X6_plans (hx : p.tables.exec = Jvm.exec) (hb : c.code = cc) (hown : s.vm.findClass RX6 = some m.cls) (hK : KB D cy s) (hW : HW D z0 ad V H) {v0 v1 v2 v3 v4 v5 : Value} (hV : V L = some (.inr (6, [v0, v1, v2, v3, v4, v5]))) (hdg : decode cc pc = .ok (.getfield 18, 3)) (kk : W p l e R s m args below meth c H locs cells slots Q (F0 m (pc + 3) ls (v1 :: rest))) : W p l e R s m args below meth c H locs cells slots Q (F0 m pc ls (.ref (ad L) :: rest)) :=
  va_get (own := RX6) (ref := "ScoreDifferences") (C := RX6) (T := TX6) (N := 6) (ci := 6) hx hb (hK.1.use args) inT6 hown hK.2 (hW.rd hV) 0 rfl rfl 1 (by decide) (hK.1.use args _ tw_145) (fun _ h9 => h9) rfl hdg kk
theorem p_X6_X6_plans (hx : p.tables.exec = Jvm.exec) (hb : c.code = cc) (hown : s.vm.findClass RX6 = some m.cls) (hin : meth.name = "<init>") (hK : KB D cy s) (hW : HW D z0 ad V H) (hS : va_S (AA z0) H0 H locs) {v0 v1 v2 v3 v4 v5 : Value} {x : Nat} (hV : V L = some (.inr (6, [v0, v1, v2, v3, v4, v5]))) (hdg : decode cc pc = .ok (.putfield 18, 3))
    (kk : ∀ (H1 : Heap) (locs1 : List Loc), HW D z0 ad (va_up V L (some (.inr (6, [v0, .ref x, v2, v3, v4, v5])))) H1 → va_S (AA z0) H0 H1 locs1 → W p l e R s m args below meth c H1 locs1 cells slots Q (F0 m (pc + 3) ls rest)) : W p l e R s m args below meth c H locs cells slots Q (F0 m pc ls (.ref x :: .ref (ad L) :: rest)) := by
  obtain ⟨ws, k, hP, hD, hk, hnew⟩ := hW.wr hV
  exact va_putF (own := RX6) (ref := "ScoreDifferences") (C := RX6) (T := TX6) (N := 6) (ci := 6) (ty := (tyX6 1)) hx hb (hK.1.use args) inT6 tyX6 tyX6_ok nmX6 hown hK.2 hP hD hS k hk rfl 1 (by decide) (hK.1.use args _ tw_145) (fun _ h9 => h9) rfl hin rfl (by decide +kernel) rfl rfl (Nat.le_of_ble_eq_true rfl) hdg (fun H1 locs1 hP1 hD1 hS1 => kk H1 locs1 (hnew _ _ hP1 hD1) hS1)
theorem g_X6_X6_snapshots (hx : p.tables.exec = Jvm.exec) (hb : c.code = cc) (hown : s.vm.findClass RX6 = some m.cls) (hK : KB D cy s) (hW : HW D z0 ad V H) {v0 v1 v2 v3 v4 v5 : Value} (hV : V L = some (.inr (6, [v0, v1, v2, v3, v4, v5]))) (hdg : decode cc pc = .ok (.getfield 31, 3)) (kk : W p l e R s m args below meth c H locs cells slots Q (F0 m (pc + 3) ls (v2 :: rest))) : W p l e R s m args below meth c H locs cells slots Q (F0 m pc ls (.ref (ad L) :: rest)) :=
  va_get (own := RX6) (ref := "ScoreDifferences") (C := RX6) (T := TX6) (N := 6) (ci := 6) hx hb (hK.1.use args) inT6 hown hK.2 (hW.rd hV) 0 rfl rfl 2 (by decide) (hK.1.use args _ tw_146) (fun _ h9 => h9) rfl hdg kk
theorem p_X6_X6_snapshots (hx : p.tables.exec = Jvm.exec) (hb : c.code = cc) (hown : s.vm.findClass RX6 = some m.cls) (hin : meth.name = "<init>") (hK : KB D cy s) (hW : HW D z0 ad V H) (hS : va_S (AA z0) H0 H locs) {v0 v1 v2 v3 v4 v5 : Value} {x : Nat} (hV : V L = some (.inr (6, [v0, v1, v2, v3, v4, v5]))) (hdg : decode cc pc = .ok (.putfield 31, 3))
    (kk : ∀ (H1 : Heap) (locs1 : List Loc), HW D z0 ad (va_up V L (some (.inr (6, [v0, v1, .ref x, v3, v4, v5])))) H1 → va_S (AA z0) H0 H1 locs1 → W p l e R s m args below meth c H1 locs1 cells slots Q (F0 m (pc + 3) ls rest)) : W p l e R s m args below meth c H locs cells slots Q (F0 m pc ls (.ref x :: .ref (ad L) :: rest)) := by
  obtain ⟨ws, k, hP, hD, hk, hnew⟩ := hW.wr hV
  exact va_putF (own := RX6) (ref := "ScoreDifferences") (C := RX6) (T := TX6) (N := 6) (ci := 6) (ty := (tyX6 2)) hx hb (hK.1.use args) inT6 tyX6 tyX6_ok nmX6 hown hK.2 hP hD hS k hk rfl 2 (by decide) (hK.1.use args _ tw_146) (fun _ h9 => h9) rfl hin rfl (by decide +kernel) rfl rfl (Nat.le_of_ble_eq_true rfl) hdg (fun H1 locs1 hP1 hD1 hS1 => kk H1 locs1 (hnew _ _ hP1 hD1) hS1)
theorem g_X6_X6_planCount (hx : p.tables.exec = Jvm.exec) (hb : c.code = cc) (hown : s.vm.findClass RX6 = some m.cls) (hK : KB D cy s) (hW : HW D z0 ad V H) {v0 v1 v2 v3 v4 v5 : Value} (hV : V L = some (.inr (6, [v0, v1, v2, v3, v4, v5]))) (hdg : decode cc pc = .ok (.getfield 25, 3)) (kk : W p l e R s m args below meth c H locs cells slots Q (F0 m (pc + 3) ls (v3 :: rest))) : W p l e R s m args below meth c H locs cells slots Q (F0 m pc ls (.ref (ad L) :: rest)) :=
  va_get (own := RX6) (ref := "ScoreDifferences") (C := RX6) (T := TX6) (N := 6) (ci := 6) hx hb (hK.1.use args) inT6 hown hK.2 (hW.rd hV) 0 rfl rfl 3 (by decide) (hK.1.use args _ tw_147) (fun _ h9 => h9) rfl hdg kk
theorem p_X6_X6_planCount (hx : p.tables.exec = Jvm.exec) (hb : c.code = cc) (hown : s.vm.findClass RX6 = some m.cls) (hK : KB D cy s) (hW : HW D z0 ad V H) (hS : va_S (AA z0) H0 H locs) {v0 v1 v2 v3 v4 v5 : Value} {x : Int32} (hV : V L = some (.inr (6, [v0, v1, v2, v3, v4, v5]))) (hdg : decode cc pc = .ok (.putfield 25, 3))
    (kk : ∀ (H1 : Heap) (locs1 : List Loc), HW D z0 ad (va_up V L (some (.inr (6, [v0, v1, v2, .int x, v4, v5])))) H1 → va_S (AA z0) H0 H1 locs1 → W p l e R s m args below meth c H1 locs1 cells slots Q (F0 m (pc + 3) ls rest)) : W p l e R s m args below meth c H locs cells slots Q (F0 m pc ls (.int x :: .ref (ad L) :: rest)) := by
  obtain ⟨ws, k, hP, hD, hk, hnew⟩ := hW.wr hV
  exact va_put (own := RX6) (ref := "ScoreDifferences") (C := RX6) (T := TX6) (N := 6) (ci := 6) (ty := .int) hx hb (hK.1.use args) inT6 tyX6 tyX6_ok nmX6 hown hK.2 hP hD hS k hk rfl 3 (by decide) (hK.1.use args _ tw_147) (fun _ h9 => h9) rfl (by decide +kernel) rfl rfl (Nat.le_of_ble_eq_true rfl) hdg (fun H1 locs1 hP1 hD1 hS1 => kk H1 locs1 (hnew _ _ hP1 hD1) hS1)
theorem g_X6_X6_snapshotCount (hx : p.tables.exec = Jvm.exec) (hb : c.code = cc) (hown : s.vm.findClass RX6 = some m.cls) (hK : KB D cy s) (hW : HW D z0 ad V H) {v0 v1 v2 v3 v4 v5 : Value} (hV : V L = some (.inr (6, [v0, v1, v2, v3, v4, v5]))) (hdg : decode cc pc = .ok (.getfield 155, 3)) (kk : W p l e R s m args below meth c H locs cells slots Q (F0 m (pc + 3) ls (v4 :: rest))) : W p l e R s m args below meth c H locs cells slots Q (F0 m pc ls (.ref (ad L) :: rest)) :=
  va_get (own := RX6) (ref := "ScoreDifferences") (C := RX6) (T := TX6) (N := 6) (ci := 6) hx hb (hK.1.use args) inT6 hown hK.2 (hW.rd hV) 0 rfl rfl 4 (by decide) (hK.1.use args _ tw_148) (fun _ h9 => h9) rfl hdg kk
theorem p_X6_X6_snapshotCount (hx : p.tables.exec = Jvm.exec) (hb : c.code = cc) (hown : s.vm.findClass RX6 = some m.cls) (hK : KB D cy s) (hW : HW D z0 ad V H) (hS : va_S (AA z0) H0 H locs) {v0 v1 v2 v3 v4 v5 : Value} {x : Int32} (hV : V L = some (.inr (6, [v0, v1, v2, v3, v4, v5]))) (hdg : decode cc pc = .ok (.putfield 155, 3))
    (kk : ∀ (H1 : Heap) (locs1 : List Loc), HW D z0 ad (va_up V L (some (.inr (6, [v0, v1, v2, v3, .int x, v5])))) H1 → va_S (AA z0) H0 H1 locs1 → W p l e R s m args below meth c H1 locs1 cells slots Q (F0 m (pc + 3) ls rest)) : W p l e R s m args below meth c H locs cells slots Q (F0 m pc ls (.int x :: .ref (ad L) :: rest)) := by
  obtain ⟨ws, k, hP, hD, hk, hnew⟩ := hW.wr hV
  exact va_put (own := RX6) (ref := "ScoreDifferences") (C := RX6) (T := TX6) (N := 6) (ci := 6) (ty := .int) hx hb (hK.1.use args) inT6 tyX6 tyX6_ok nmX6 hown hK.2 hP hD hS k hk rfl 4 (by decide) (hK.1.use args _ tw_148) (fun _ h9 => h9) rfl (by decide +kernel) rfl rfl (Nat.le_of_ble_eq_true rfl) hdg (fun H1 locs1 hP1 hD1 hS1 => kk H1 locs1 (hnew _ _ hP1 hD1) hS1)
theorem g_X6_X6_checkEvery (hx : p.tables.exec = Jvm.exec) (hb : c.code = cc) (hown : s.vm.findClass RX6 = some m.cls) (hK : KB D cy s) (hW : HW D z0 ad V H) {v0 v1 v2 v3 v4 v5 : Value} (hV : V L = some (.inr (6, [v0, v1, v2, v3, v4, v5]))) (hdg : decode cc pc = .ok (.getfield 96, 3)) (kk : W p l e R s m args below meth c H locs cells slots Q (F0 m (pc + 3) ls (v5 :: rest))) : W p l e R s m args below meth c H locs cells slots Q (F0 m pc ls (.ref (ad L) :: rest)) :=
  va_get (own := RX6) (ref := "ScoreDifferences") (C := RX6) (T := TX6) (N := 6) (ci := 6) hx hb (hK.1.use args) inT6 hown hK.2 (hW.rd hV) 0 rfl rfl 5 (by decide) (hK.1.use args _ tw_149) (fun _ h9 => h9) rfl hdg kk
theorem p_X6_X6_checkEvery (hx : p.tables.exec = Jvm.exec) (hb : c.code = cc) (hown : s.vm.findClass RX6 = some m.cls) (hK : KB D cy s) (hW : HW D z0 ad V H) (hS : va_S (AA z0) H0 H locs) {v0 v1 v2 v3 v4 v5 : Value} {x : Int32} (hV : V L = some (.inr (6, [v0, v1, v2, v3, v4, v5]))) (hdg : decode cc pc = .ok (.putfield 96, 3))
    (kk : ∀ (H1 : Heap) (locs1 : List Loc), HW D z0 ad (va_up V L (some (.inr (6, [v0, v1, v2, v3, v4, .int x])))) H1 → va_S (AA z0) H0 H1 locs1 → W p l e R s m args below meth c H1 locs1 cells slots Q (F0 m (pc + 3) ls rest)) : W p l e R s m args below meth c H locs cells slots Q (F0 m pc ls (.int x :: .ref (ad L) :: rest)) := by
  obtain ⟨ws, k, hP, hD, hk, hnew⟩ := hW.wr hV
  exact va_put (own := RX6) (ref := "ScoreDifferences") (C := RX6) (T := TX6) (N := 6) (ci := 6) (ty := .int) hx hb (hK.1.use args) inT6 tyX6 tyX6_ok nmX6 hown hK.2 hP hD hS k hk rfl 5 (by decide) (hK.1.use args _ tw_149) (fun _ h9 => h9) rfl (by decide +kernel) rfl rfl (Nat.le_of_ble_eq_true rfl) hdg (fun H1 locs1 hP1 hD1 hS1 => kk H1 locs1 (hnew _ _ hP1 hD1) hS1)
theorem g_X2_X2_kind (hx : p.tables.exec = Jvm.exec) (hb : c.code = cc) (hown : s.vm.findClass RX2 = some m.cls) (hK : KB D cy s) (hW : HW D z0 ad V H) {v0 v1 v2 v3 v4 : Value} (hV : V L = some (.inr (2, [v0, v1, v2, v3, v4]))) (hdg : decode cc pc = .ok (.getfield 9, 3)) (kk : W p l e R s m args below meth c H locs cells slots Q (F0 m (pc + 3) ls (v0 :: rest))) : W p l e R s m args below meth c H locs cells slots Q (F0 m pc ls (.ref (ad L) :: rest)) :=
  va_get (own := RX2) (ref := "ScoreDifferences$Rule") (C := RX2) (T := TX2) (N := 5) (ci := 2) hx hb (hK.1.use args) inT2 hown hK.2 (hW.rd hV) 0 rfl rfl 0 (by decide) (hK.1.use args _ tw_251) (fun _ h9 => h9) rfl hdg kk
theorem p_X2_X2_kind (hx : p.tables.exec = Jvm.exec) (hb : c.code = cc) (hown : s.vm.findClass RX2 = some m.cls) (hin : meth.name = "<init>") (hK : KB D cy s) (hW : HW D z0 ad V H) (hS : va_S (AA z0) H0 H locs) {v0 v1 v2 v3 v4 : Value} {x : Int32} (hV : V L = some (.inr (2, [v0, v1, v2, v3, v4]))) (hdg : decode cc pc = .ok (.putfield 9, 3))
    (kk : ∀ (H1 : Heap) (locs1 : List Loc), HW D z0 ad (va_up V L (some (.inr (2, [.int x, v1, v2, v3, v4])))) H1 → va_S (AA z0) H0 H1 locs1 → W p l e R s m args below meth c H1 locs1 cells slots Q (F0 m (pc + 3) ls rest)) : W p l e R s m args below meth c H locs cells slots Q (F0 m pc ls (.int x :: .ref (ad L) :: rest)) := by
  obtain ⟨ws, k, hP, hD, hk, hnew⟩ := hW.wr hV
  exact va_putF (own := RX2) (ref := "ScoreDifferences$Rule") (C := RX2) (T := TX2) (N := 5) (ci := 2) (ty := .int) hx hb (hK.1.use args) inT2 tyX2 tyX2_ok nmX2 hown hK.2 hP hD hS k hk rfl 0 (by decide) (hK.1.use args _ tw_251) (fun _ h9 => h9) rfl hin rfl (by decide +kernel) rfl rfl (Nat.le_of_ble_eq_true rfl) hdg (fun H1 locs1 hP1 hD1 hS1 => kk H1 locs1 (hnew _ _ hP1 hD1) hS1)
theorem g_X2_X2_looksAt (hx : p.tables.exec = Jvm.exec) (hb : c.code = cc) (hown : s.vm.findClass RX2 = some m.cls) (hK : KB D cy s) (hW : HW D z0 ad V H) {v0 v1 v2 v3 v4 : Value} (hV : V L = some (.inr (2, [v0, v1, v2, v3, v4]))) (hdg : decode cc pc = .ok (.getfield 15, 3)) (kk : W p l e R s m args below meth c H locs cells slots Q (F0 m (pc + 3) ls (v1 :: rest))) : W p l e R s m args below meth c H locs cells slots Q (F0 m pc ls (.ref (ad L) :: rest)) :=
  va_get (own := RX2) (ref := "ScoreDifferences$Rule") (C := RX2) (T := TX2) (N := 5) (ci := 2) hx hb (hK.1.use args) inT2 hown hK.2 (hW.rd hV) 0 rfl rfl 1 (by decide) (hK.1.use args _ tw_252) (fun _ h9 => h9) rfl hdg kk
theorem p_X2_X2_looksAt (hx : p.tables.exec = Jvm.exec) (hb : c.code = cc) (hown : s.vm.findClass RX2 = some m.cls) (hin : meth.name = "<init>") (hK : KB D cy s) (hW : HW D z0 ad V H) (hS : va_S (AA z0) H0 H locs) {v0 v1 v2 v3 v4 : Value} {x : Int32} (hV : V L = some (.inr (2, [v0, v1, v2, v3, v4]))) (hdg : decode cc pc = .ok (.putfield 15, 3))
    (kk : ∀ (H1 : Heap) (locs1 : List Loc), HW D z0 ad (va_up V L (some (.inr (2, [v0, .int x, v2, v3, v4])))) H1 → va_S (AA z0) H0 H1 locs1 → W p l e R s m args below meth c H1 locs1 cells slots Q (F0 m (pc + 3) ls rest)) : W p l e R s m args below meth c H locs cells slots Q (F0 m pc ls (.int x :: .ref (ad L) :: rest)) := by
  obtain ⟨ws, k, hP, hD, hk, hnew⟩ := hW.wr hV
  exact va_putF (own := RX2) (ref := "ScoreDifferences$Rule") (C := RX2) (T := TX2) (N := 5) (ci := 2) (ty := .int) hx hb (hK.1.use args) inT2 tyX2 tyX2_ok nmX2 hown hK.2 hP hD hS k hk rfl 1 (by decide) (hK.1.use args _ tw_252) (fun _ h9 => h9) rfl hin rfl (by decide +kernel) rfl rfl (Nat.le_of_ble_eq_true rfl) hdg (fun H1 locs1 hP1 hD1 hS1 => kk H1 locs1 (hnew _ _ hP1 hD1) hS1)
theorem g_X2_X2_bound (hx : p.tables.exec = Jvm.exec) (hb : c.code = cc) (hown : s.vm.findClass RX2 = some m.cls) (hK : KB D cy s) (hW : HW D z0 ad V H) {v0 v1 v2 v3 v4 : Value} (hV : V L = some (.inr (2, [v0, v1, v2, v3, v4]))) (hdg : decode cc pc = .ok (.getfield 18, 3)) (kk : W p l e R s m args below meth c H locs cells slots Q (F0 m (pc + 3) ls (v2 :: rest))) : W p l e R s m args below meth c H locs cells slots Q (F0 m pc ls (.ref (ad L) :: rest)) :=
  va_get (own := RX2) (ref := "ScoreDifferences$Rule") (C := RX2) (T := TX2) (N := 5) (ci := 2) hx hb (hK.1.use args) inT2 hown hK.2 (hW.rd hV) 0 rfl rfl 2 (by decide) (hK.1.use args _ tw_253) (fun _ h9 => h9) rfl hdg kk
theorem p_X2_X2_bound (hx : p.tables.exec = Jvm.exec) (hb : c.code = cc) (hown : s.vm.findClass RX2 = some m.cls) (hin : meth.name = "<init>") (hK : KB D cy s) (hW : HW D z0 ad V H) (hS : va_S (AA z0) H0 H locs) {v0 v1 v2 v3 v4 : Value} {x : Int32} (hV : V L = some (.inr (2, [v0, v1, v2, v3, v4]))) (hdg : decode cc pc = .ok (.putfield 18, 3))
    (kk : ∀ (H1 : Heap) (locs1 : List Loc), HW D z0 ad (va_up V L (some (.inr (2, [v0, v1, .int x, v3, v4])))) H1 → va_S (AA z0) H0 H1 locs1 → W p l e R s m args below meth c H1 locs1 cells slots Q (F0 m (pc + 3) ls rest)) : W p l e R s m args below meth c H locs cells slots Q (F0 m pc ls (.int x :: .ref (ad L) :: rest)) := by
  obtain ⟨ws, k, hP, hD, hk, hnew⟩ := hW.wr hV
  exact va_putF (own := RX2) (ref := "ScoreDifferences$Rule") (C := RX2) (T := TX2) (N := 5) (ci := 2) (ty := .int) hx hb (hK.1.use args) inT2 tyX2 tyX2_ok nmX2 hown hK.2 hP hD hS k hk rfl 2 (by decide) (hK.1.use args _ tw_253) (fun _ h9 => h9) rfl hin rfl (by decide +kernel) rfl rfl (Nat.le_of_ble_eq_true rfl) hdg (fun H1 locs1 hP1 hD1 hS1 => kk H1 locs1 (hnew _ _ hP1 hD1) hS1)
theorem g_X2_X2_weight (hx : p.tables.exec = Jvm.exec) (hb : c.code = cc) (hown : s.vm.findClass RX2 = some m.cls) (hK : KB D cy s) (hW : HW D z0 ad V H) {v0 v1 v2 v3 v4 : Value} (hV : V L = some (.inr (2, [v0, v1, v2, v3, v4]))) (hdg : decode cc pc = .ok (.getfield 21, 3)) (kk : W p l e R s m args below meth c H locs cells slots Q (F0 m (pc + 3) ls (v3 :: rest))) : W p l e R s m args below meth c H locs cells slots Q (F0 m pc ls (.ref (ad L) :: rest)) :=
  va_get (own := RX2) (ref := "ScoreDifferences$Rule") (C := RX2) (T := TX2) (N := 5) (ci := 2) hx hb (hK.1.use args) inT2 hown hK.2 (hW.rd hV) 0 rfl rfl 3 (by decide) (hK.1.use args _ tw_254) (fun _ h9 => h9) rfl hdg kk
theorem p_X2_X2_weight (hx : p.tables.exec = Jvm.exec) (hb : c.code = cc) (hown : s.vm.findClass RX2 = some m.cls) (hin : meth.name = "<init>") (hK : KB D cy s) (hW : HW D z0 ad V H) (hS : va_S (AA z0) H0 H locs) {v0 v1 v2 v3 v4 : Value} {x : Int32} (hV : V L = some (.inr (2, [v0, v1, v2, v3, v4]))) (hdg : decode cc pc = .ok (.putfield 21, 3))
    (kk : ∀ (H1 : Heap) (locs1 : List Loc), HW D z0 ad (va_up V L (some (.inr (2, [v0, v1, v2, .int x, v4])))) H1 → va_S (AA z0) H0 H1 locs1 → W p l e R s m args below meth c H1 locs1 cells slots Q (F0 m (pc + 3) ls rest)) : W p l e R s m args below meth c H locs cells slots Q (F0 m pc ls (.int x :: .ref (ad L) :: rest)) := by
  obtain ⟨ws, k, hP, hD, hk, hnew⟩ := hW.wr hV
  exact va_putF (own := RX2) (ref := "ScoreDifferences$Rule") (C := RX2) (T := TX2) (N := 5) (ci := 2) (ty := .int) hx hb (hK.1.use args) inT2 tyX2 tyX2_ok nmX2 hown hK.2 hP hD hS k hk rfl 3 (by decide) (hK.1.use args _ tw_254) (fun _ h9 => h9) rfl hin rfl (by decide +kernel) rfl rfl (Nat.le_of_ble_eq_true rfl) hdg (fun H1 locs1 hP1 hD1 hS1 => kk H1 locs1 (hnew _ _ hP1 hD1) hS1)
theorem g_X2_X2_level (hx : p.tables.exec = Jvm.exec) (hb : c.code = cc) (hown : s.vm.findClass RX2 = some m.cls) (hK : KB D cy s) (hW : HW D z0 ad V H) {v0 v1 v2 v3 v4 : Value} (hV : V L = some (.inr (2, [v0, v1, v2, v3, v4]))) (hdg : decode cc pc = .ok (.getfield 24, 3)) (kk : W p l e R s m args below meth c H locs cells slots Q (F0 m (pc + 3) ls (v4 :: rest))) : W p l e R s m args below meth c H locs cells slots Q (F0 m pc ls (.ref (ad L) :: rest)) :=
  va_get (own := RX2) (ref := "ScoreDifferences$Rule") (C := RX2) (T := TX2) (N := 5) (ci := 2) hx hb (hK.1.use args) inT2 hown hK.2 (hW.rd hV) 0 rfl rfl 4 (by decide) (hK.1.use args _ tw_255) (fun _ h9 => h9) rfl hdg kk
theorem p_X2_X2_level (hx : p.tables.exec = Jvm.exec) (hb : c.code = cc) (hown : s.vm.findClass RX2 = some m.cls) (hin : meth.name = "<init>") (hK : KB D cy s) (hW : HW D z0 ad V H) (hS : va_S (AA z0) H0 H locs) {v0 v1 v2 v3 v4 : Value} {x : Int32} (hV : V L = some (.inr (2, [v0, v1, v2, v3, v4]))) (hdg : decode cc pc = .ok (.putfield 24, 3))
    (kk : ∀ (H1 : Heap) (locs1 : List Loc), HW D z0 ad (va_up V L (some (.inr (2, [v0, v1, v2, v3, .int x])))) H1 → va_S (AA z0) H0 H1 locs1 → W p l e R s m args below meth c H1 locs1 cells slots Q (F0 m (pc + 3) ls rest)) : W p l e R s m args below meth c H locs cells slots Q (F0 m pc ls (.int x :: .ref (ad L) :: rest)) := by
  obtain ⟨ws, k, hP, hD, hk, hnew⟩ := hW.wr hV
  exact va_putF (own := RX2) (ref := "ScoreDifferences$Rule") (C := RX2) (T := TX2) (N := 5) (ci := 2) (ty := .int) hx hb (hK.1.use args) inT2 tyX2 tyX2_ok nmX2 hown hK.2 hP hD hS k hk rfl 4 (by decide) (hK.1.use args _ tw_255) (fun _ h9 => h9) rfl hin rfl (by decide +kernel) rfl rfl (Nat.le_of_ble_eq_true rfl) hdg (fun H1 locs1 hP1 hD1 hS1 => kk H1 locs1 (hnew _ _ hP1 hD1) hS1)
theorem g_X1_X2_level (hx : p.tables.exec = Jvm.exec) (hb : c.code = cc) (hown : s.vm.findClass RX1 = some m.cls) (hK : KB D cy s) (hW : HW D z0 ad V H) {v0 v1 v2 v3 v4 : Value} (hV : V L = some (.inr (2, [v0, v1, v2, v3, v4]))) (hdg : decode cc pc = .ok (.getfield 77, 3)) (kk : W p l e R s m args below meth c H locs cells slots Q (F0 m (pc + 3) ls (v4 :: rest))) : W p l e R s m args below meth c H locs cells slots Q (F0 m pc ls (.ref (ad L) :: rest)) :=
  va_getN (own := RX1) (ref := "ScoreDifferences$Rule") (C := RX2) (T := TX2) (N := 5) (ci := 2) hx hb (hK.1.use args) inT2 hown hK.2 (hW.rd hV) 0 rfl rfl 4 (by decide) (hK.1.use args _ tw_256) (fun _ h9 => h9) rfl hdg kk
theorem g_X4_X4_members (hx : p.tables.exec = Jvm.exec) (hb : c.code = cc) (hown : s.vm.findClass RX4 = some m.cls) (hK : KB D cy s) (hW : HW D z0 ad V H) {v0 v1 : Value} (hV : V L = some (.inr (4, [v0, v1]))) (hdg : decode cc pc = .ok (.getfield 12, 3)) (kk : W p l e R s m args below meth c H locs cells slots Q (F0 m (pc + 3) ls (v0 :: rest))) : W p l e R s m args below meth c H locs cells slots Q (F0 m pc ls (.ref (ad L) :: rest)) :=
  va_get (own := RX4) (ref := "ScoreDifferences$Snapshot") (C := RX4) (T := TX4) (N := 2) (ci := 4) hx hb (hK.1.use args) inT4 hown hK.2 (hW.rd hV) 0 rfl rfl 0 (by decide) (hK.1.use args _ tw_445) (fun _ h9 => h9) rfl hdg kk
theorem p_X4_X4_members (hx : p.tables.exec = Jvm.exec) (hb : c.code = cc) (hown : s.vm.findClass RX4 = some m.cls) (hin : meth.name = "<init>") (hK : KB D cy s) (hW : HW D z0 ad V H) (hS : va_S (AA z0) H0 H locs) {v0 v1 : Value} {x : Nat} (hV : V L = some (.inr (4, [v0, v1]))) (hdg : decode cc pc = .ok (.putfield 12, 3))
    (kk : ∀ (H1 : Heap) (locs1 : List Loc), HW D z0 ad (va_up V L (some (.inr (4, [.ref x, v1])))) H1 → va_S (AA z0) H0 H1 locs1 → W p l e R s m args below meth c H1 locs1 cells slots Q (F0 m (pc + 3) ls rest)) : W p l e R s m args below meth c H locs cells slots Q (F0 m pc ls (.ref x :: .ref (ad L) :: rest)) := by
  obtain ⟨ws, k, hP, hD, hk, hnew⟩ := hW.wr hV
  exact va_putF (own := RX4) (ref := "ScoreDifferences$Snapshot") (C := RX4) (T := TX4) (N := 2) (ci := 4) (ty := (tyX4 0)) hx hb (hK.1.use args) inT4 tyX4 tyX4_ok nmX4 hown hK.2 hP hD hS k hk rfl 0 (by decide) (hK.1.use args _ tw_445) (fun _ h9 => h9) rfl hin rfl (by decide +kernel) rfl rfl (Nat.le_of_ble_eq_true rfl) hdg (fun H1 locs1 hP1 hD1 hS1 => kk H1 locs1 (hnew _ _ hP1 hD1) hS1)
theorem g_X6_X4_members (hx : p.tables.exec = Jvm.exec) (hb : c.code = cc) (hown : s.vm.findClass RX6 = some m.cls) (hK : KB D cy s) (hW : HW D z0 ad V H) {v0 v1 : Value} (hV : V L = some (.inr (4, [v0, v1]))) (hdg : decode cc pc = .ok (.getfield 167, 3)) (kk : W p l e R s m args below meth c H locs cells slots Q (F0 m (pc + 3) ls (v0 :: rest))) : W p l e R s m args below meth c H locs cells slots Q (F0 m pc ls (.ref (ad L) :: rest)) :=
  va_getN (own := RX6) (ref := "ScoreDifferences$Snapshot") (C := RX4) (T := TX4) (N := 2) (ci := 4) hx hb (hK.1.use args) inT4 hown hK.2 (hW.rd hV) 0 rfl rfl 0 (by decide) (hK.1.use args _ tw_446) (fun _ h9 => h9) rfl hdg kk
theorem g_X4_X4_scores (hx : p.tables.exec = Jvm.exec) (hb : c.code = cc) (hown : s.vm.findClass RX4 = some m.cls) (hK : KB D cy s) (hW : HW D z0 ad V H) {v0 v1 : Value} (hV : V L = some (.inr (4, [v0, v1]))) (hdg : decode cc pc = .ok (.getfield 18, 3)) (kk : W p l e R s m args below meth c H locs cells slots Q (F0 m (pc + 3) ls (v1 :: rest))) : W p l e R s m args below meth c H locs cells slots Q (F0 m pc ls (.ref (ad L) :: rest)) :=
  va_get (own := RX4) (ref := "ScoreDifferences$Snapshot") (C := RX4) (T := TX4) (N := 2) (ci := 4) hx hb (hK.1.use args) inT4 hown hK.2 (hW.rd hV) 0 rfl rfl 1 (by decide) (hK.1.use args _ tw_447) (fun _ h9 => h9) rfl hdg kk
theorem p_X4_X4_scores (hx : p.tables.exec = Jvm.exec) (hb : c.code = cc) (hown : s.vm.findClass RX4 = some m.cls) (hin : meth.name = "<init>") (hK : KB D cy s) (hW : HW D z0 ad V H) (hS : va_S (AA z0) H0 H locs) {v0 v1 : Value} {x : Nat} (hV : V L = some (.inr (4, [v0, v1]))) (hdg : decode cc pc = .ok (.putfield 18, 3))
    (kk : ∀ (H1 : Heap) (locs1 : List Loc), HW D z0 ad (va_up V L (some (.inr (4, [v0, .ref x])))) H1 → va_S (AA z0) H0 H1 locs1 → W p l e R s m args below meth c H1 locs1 cells slots Q (F0 m (pc + 3) ls rest)) : W p l e R s m args below meth c H locs cells slots Q (F0 m pc ls (.ref x :: .ref (ad L) :: rest)) := by
  obtain ⟨ws, k, hP, hD, hk, hnew⟩ := hW.wr hV
  exact va_putF (own := RX4) (ref := "ScoreDifferences$Snapshot") (C := RX4) (T := TX4) (N := 2) (ci := 4) (ty := (tyX4 1)) hx hb (hK.1.use args) inT4 tyX4 tyX4_ok nmX4 hown hK.2 hP hD hS k hk rfl 1 (by decide) (hK.1.use args _ tw_447) (fun _ h9 => h9) rfl hin rfl (by decide +kernel) rfl rfl (Nat.le_of_ble_eq_true rfl) hdg (fun H1 locs1 hP1 hD1 hS1 => kk H1 locs1 (hnew _ _ hP1 hD1) hS1)
theorem g_X6_X4_scores (hx : p.tables.exec = Jvm.exec) (hb : c.code = cc) (hown : s.vm.findClass RX6 = some m.cls) (hK : KB D cy s) (hW : HW D z0 ad V H) {v0 v1 : Value} (hV : V L = some (.inr (4, [v0, v1]))) (hdg : decode cc pc = .ok (.getfield 164, 3)) (kk : W p l e R s m args below meth c H locs cells slots Q (F0 m (pc + 3) ls (v1 :: rest))) : W p l e R s m args below meth c H locs cells slots Q (F0 m pc ls (.ref (ad L) :: rest)) :=
  va_getN (own := RX6) (ref := "ScoreDifferences$Snapshot") (C := RX4) (T := TX4) (N := 2) (ci := 4) hx hb (hK.1.use args) inT4 hown hK.2 (hW.rd hV) 0 rfl rfl 1 (by decide) (hK.1.use args _ tw_448) (fun _ h9 => h9) rfl hdg kk
theorem g_X7_X7_objects (hx : p.tables.exec = Jvm.exec) (hb : c.code = cc) (hown : s.vm.findClass RX7 = some m.cls) (hK : KB D cy s) (hW : HW D z0 ad V H) {v0 v1 v2 v3 v4 v5 v6 v7 v8 v9 v10 v11 v12 v13 v14 v15 v16 v17 v18 v19 v20 v21 v22 v23 v24 v25 v26 v27 : Value} (hV : V L = some (.inr (7, [v0, v1, v2, v3, v4, v5, v6, v7, v8, v9, v10, v11, v12, v13, v14, v15, v16, v17, v18, v19, v20, v21, v22, v23, v24, v25, v26, v27]))) (hdg : decode cc pc = .ok (.getfield 89, 3)) (kk : W p l e R s m args below meth c H locs cells slots Q (F0 m (pc + 3) ls (v0 :: rest))) : W p l e R s m args below meth c H locs cells slots Q (F0 m pc ls (.ref (ad L) :: rest)) :=
  va_get (own := RX7) (ref := "ScoreDifferencesModel") (C := RX7) (T := TX7) (N := 28) (ci := 7) hx hb (hK.1.use args) inT7 hown hK.2 (hW.rd hV) 0 rfl rfl 0 (by decide) (hK.1.use args _ tw_489) (fun _ h9 => h9) rfl hdg kk
theorem p_X7_X7_objects (hx : p.tables.exec = Jvm.exec) (hb : c.code = cc) (hown : s.vm.findClass RX7 = some m.cls) (hK : KB D cy s) (hW : HW D z0 ad V H) (hS : va_S (AA z0) H0 H locs) {v0 v1 v2 v3 v4 v5 v6 v7 v8 v9 v10 v11 v12 v13 v14 v15 v16 v17 v18 v19 v20 v21 v22 v23 v24 v25 v26 v27 : Value} {x : Int32} (hV : V L = some (.inr (7, [v0, v1, v2, v3, v4, v5, v6, v7, v8, v9, v10, v11, v12, v13, v14, v15, v16, v17, v18, v19, v20, v21, v22, v23, v24, v25, v26, v27]))) (hdg : decode cc pc = .ok (.putfield 89, 3))
    (kk : ∀ (H1 : Heap) (locs1 : List Loc), HW D z0 ad (va_up V L (some (.inr (7, [.int x, v1, v2, v3, v4, v5, v6, v7, v8, v9, v10, v11, v12, v13, v14, v15, v16, v17, v18, v19, v20, v21, v22, v23, v24, v25, v26, v27])))) H1 → va_S (AA z0) H0 H1 locs1 → W p l e R s m args below meth c H1 locs1 cells slots Q (F0 m (pc + 3) ls rest)) : W p l e R s m args below meth c H locs cells slots Q (F0 m pc ls (.int x :: .ref (ad L) :: rest)) := by
  obtain ⟨ws, k, hP, hD, hk, hnew⟩ := hW.wr hV
  exact va_put (own := RX7) (ref := "ScoreDifferencesModel") (C := RX7) (T := TX7) (N := 28) (ci := 7) (ty := .int) hx hb (hK.1.use args) inT7 tyX7 tyX7_ok nmX7 hown hK.2 hP hD hS k hk rfl 0 (by decide) (hK.1.use args _ tw_489) (fun _ h9 => h9) rfl (by decide +kernel) rfl rfl (Nat.le_of_ble_eq_true rfl) hdg (fun H1 locs1 hP1 hD1 hS1 => kk H1 locs1 (hnew _ _ hP1 hD1) hS1)
theorem g_X7_X7_rules (hx : p.tables.exec = Jvm.exec) (hb : c.code = cc) (hown : s.vm.findClass RX7 = some m.cls) (hK : KB D cy s) (hW : HW D z0 ad V H) {v0 v1 v2 v3 v4 v5 v6 v7 v8 v9 v10 v11 v12 v13 v14 v15 v16 v17 v18 v19 v20 v21 v22 v23 v24 v25 v26 v27 : Value} (hV : V L = some (.inr (7, [v0, v1, v2, v3, v4, v5, v6, v7, v8, v9, v10, v11, v12, v13, v14, v15, v16, v17, v18, v19, v20, v21, v22, v23, v24, v25, v26, v27]))) (hdg : decode cc pc = .ok (.getfield 96, 3)) (kk : W p l e R s m args below meth c H locs cells slots Q (F0 m (pc + 3) ls (v1 :: rest))) : W p l e R s m args below meth c H locs cells slots Q (F0 m pc ls (.ref (ad L) :: rest)) :=
  va_get (own := RX7) (ref := "ScoreDifferencesModel") (C := RX7) (T := TX7) (N := 28) (ci := 7) hx hb (hK.1.use args) inT7 hown hK.2 (hW.rd hV) 0 rfl rfl 1 (by decide) (hK.1.use args _ tw_490) (fun _ h9 => h9) rfl hdg kk
theorem p_X7_X7_rules (hx : p.tables.exec = Jvm.exec) (hb : c.code = cc) (hown : s.vm.findClass RX7 = some m.cls) (hK : KB D cy s) (hW : HW D z0 ad V H) (hS : va_S (AA z0) H0 H locs) {v0 v1 v2 v3 v4 v5 v6 v7 v8 v9 v10 v11 v12 v13 v14 v15 v16 v17 v18 v19 v20 v21 v22 v23 v24 v25 v26 v27 : Value} {x : Int32} (hV : V L = some (.inr (7, [v0, v1, v2, v3, v4, v5, v6, v7, v8, v9, v10, v11, v12, v13, v14, v15, v16, v17, v18, v19, v20, v21, v22, v23, v24, v25, v26, v27]))) (hdg : decode cc pc = .ok (.putfield 96, 3))
    (kk : ∀ (H1 : Heap) (locs1 : List Loc), HW D z0 ad (va_up V L (some (.inr (7, [v0, .int x, v2, v3, v4, v5, v6, v7, v8, v9, v10, v11, v12, v13, v14, v15, v16, v17, v18, v19, v20, v21, v22, v23, v24, v25, v26, v27])))) H1 → va_S (AA z0) H0 H1 locs1 → W p l e R s m args below meth c H1 locs1 cells slots Q (F0 m (pc + 3) ls rest)) : W p l e R s m args below meth c H locs cells slots Q (F0 m pc ls (.int x :: .ref (ad L) :: rest)) := by
  obtain ⟨ws, k, hP, hD, hk, hnew⟩ := hW.wr hV
  exact va_put (own := RX7) (ref := "ScoreDifferencesModel") (C := RX7) (T := TX7) (N := 28) (ci := 7) (ty := .int) hx hb (hK.1.use args) inT7 tyX7 tyX7_ok nmX7 hown hK.2 hP hD hS k hk rfl 1 (by decide) (hK.1.use args _ tw_490) (fun _ h9 => h9) rfl (by decide +kernel) rfl rfl (Nat.le_of_ble_eq_true rfl) hdg (fun H1 locs1 hP1 hD1 hS1 => kk H1 locs1 (hnew _ _ hP1 hD1) hS1)
theorem g_X7_X7_kind (hx : p.tables.exec = Jvm.exec) (hb : c.code = cc) (hown : s.vm.findClass RX7 = some m.cls) (hK : KB D cy s) (hW : HW D z0 ad V H) {v0 v1 v2 v3 v4 v5 v6 v7 v8 v9 v10 v11 v12 v13 v14 v15 v16 v17 v18 v19 v20 v21 v22 v23 v24 v25 v26 v27 : Value} (hV : V L = some (.inr (7, [v0, v1, v2, v3, v4, v5, v6, v7, v8, v9, v10, v11, v12, v13, v14, v15, v16, v17, v18, v19, v20, v21, v22, v23, v24, v25, v26, v27]))) (hdg : decode cc pc = .ok (.getfield 7, 3)) (kk : W p l e R s m args below meth c H locs cells slots Q (F0 m (pc + 3) ls (v2 :: rest))) : W p l e R s m args below meth c H locs cells slots Q (F0 m pc ls (.ref (ad L) :: rest)) :=
  va_get (own := RX7) (ref := "ScoreDifferencesModel") (C := RX7) (T := TX7) (N := 28) (ci := 7) hx hb (hK.1.use args) inT7 hown hK.2 (hW.rd hV) 0 rfl rfl 2 (by decide) (hK.1.use args _ tw_491) (fun _ h9 => h9) rfl hdg kk
theorem p_X7_X7_kind (hx : p.tables.exec = Jvm.exec) (hb : c.code = cc) (hown : s.vm.findClass RX7 = some m.cls) (hin : meth.name = "<init>") (hK : KB D cy s) (hW : HW D z0 ad V H) (hS : va_S (AA z0) H0 H locs) {v0 v1 v2 v3 v4 v5 v6 v7 v8 v9 v10 v11 v12 v13 v14 v15 v16 v17 v18 v19 v20 v21 v22 v23 v24 v25 v26 v27 : Value} {x : Nat} (hV : V L = some (.inr (7, [v0, v1, v2, v3, v4, v5, v6, v7, v8, v9, v10, v11, v12, v13, v14, v15, v16, v17, v18, v19, v20, v21, v22, v23, v24, v25, v26, v27]))) (hdg : decode cc pc = .ok (.putfield 7, 3))
    (kk : ∀ (H1 : Heap) (locs1 : List Loc), HW D z0 ad (va_up V L (some (.inr (7, [v0, v1, .ref x, v3, v4, v5, v6, v7, v8, v9, v10, v11, v12, v13, v14, v15, v16, v17, v18, v19, v20, v21, v22, v23, v24, v25, v26, v27])))) H1 → va_S (AA z0) H0 H1 locs1 → W p l e R s m args below meth c H1 locs1 cells slots Q (F0 m (pc + 3) ls rest)) : W p l e R s m args below meth c H locs cells slots Q (F0 m pc ls (.ref x :: .ref (ad L) :: rest)) := by
  obtain ⟨ws, k, hP, hD, hk, hnew⟩ := hW.wr hV
  exact va_putF (own := RX7) (ref := "ScoreDifferencesModel") (C := RX7) (T := TX7) (N := 28) (ci := 7) (ty := (tyX7 2)) hx hb (hK.1.use args) inT7 tyX7 tyX7_ok nmX7 hown hK.2 hP hD hS k hk rfl 2 (by decide) (hK.1.use args _ tw_491) (fun _ h9 => h9) rfl hin rfl (by decide +kernel) rfl rfl (Nat.le_of_ble_eq_true rfl) hdg (fun H1 locs1 hP1 hD1 hS1 => kk H1 locs1 (hnew _ _ hP1 hD1) hS1)
theorem g_X7_X7_looks (hx : p.tables.exec = Jvm.exec) (hb : c.code = cc) (hown : s.vm.findClass RX7 = some m.cls) (hK : KB D cy s) (hW : HW D z0 ad V H) {v0 v1 v2 v3 v4 v5 v6 v7 v8 v9 v10 v11 v12 v13 v14 v15 v16 v17 v18 v19 v20 v21 v22 v23 v24 v25 v26 v27 : Value} (hV : V L = some (.inr (7, [v0, v1, v2, v3, v4, v5, v6, v7, v8, v9, v10, v11, v12, v13, v14, v15, v16, v17, v18, v19, v20, v21, v22, v23, v24, v25, v26, v27]))) (hdg : decode cc pc = .ok (.getfield 13, 3)) (kk : W p l e R s m args below meth c H locs cells slots Q (F0 m (pc + 3) ls (v3 :: rest))) : W p l e R s m args below meth c H locs cells slots Q (F0 m pc ls (.ref (ad L) :: rest)) :=
  va_get (own := RX7) (ref := "ScoreDifferencesModel") (C := RX7) (T := TX7) (N := 28) (ci := 7) hx hb (hK.1.use args) inT7 hown hK.2 (hW.rd hV) 0 rfl rfl 3 (by decide) (hK.1.use args _ tw_492) (fun _ h9 => h9) rfl hdg kk
theorem p_X7_X7_looks (hx : p.tables.exec = Jvm.exec) (hb : c.code = cc) (hown : s.vm.findClass RX7 = some m.cls) (hin : meth.name = "<init>") (hK : KB D cy s) (hW : HW D z0 ad V H) (hS : va_S (AA z0) H0 H locs) {v0 v1 v2 v3 v4 v5 v6 v7 v8 v9 v10 v11 v12 v13 v14 v15 v16 v17 v18 v19 v20 v21 v22 v23 v24 v25 v26 v27 : Value} {x : Nat} (hV : V L = some (.inr (7, [v0, v1, v2, v3, v4, v5, v6, v7, v8, v9, v10, v11, v12, v13, v14, v15, v16, v17, v18, v19, v20, v21, v22, v23, v24, v25, v26, v27]))) (hdg : decode cc pc = .ok (.putfield 13, 3))
    (kk : ∀ (H1 : Heap) (locs1 : List Loc), HW D z0 ad (va_up V L (some (.inr (7, [v0, v1, v2, .ref x, v4, v5, v6, v7, v8, v9, v10, v11, v12, v13, v14, v15, v16, v17, v18, v19, v20, v21, v22, v23, v24, v25, v26, v27])))) H1 → va_S (AA z0) H0 H1 locs1 → W p l e R s m args below meth c H1 locs1 cells slots Q (F0 m (pc + 3) ls rest)) : W p l e R s m args below meth c H locs cells slots Q (F0 m pc ls (.ref x :: .ref (ad L) :: rest)) := by
  obtain ⟨ws, k, hP, hD, hk, hnew⟩ := hW.wr hV
  exact va_putF (own := RX7) (ref := "ScoreDifferencesModel") (C := RX7) (T := TX7) (N := 28) (ci := 7) (ty := (tyX7 3)) hx hb (hK.1.use args) inT7 tyX7 tyX7_ok nmX7 hown hK.2 hP hD hS k hk rfl 3 (by decide) (hK.1.use args _ tw_492) (fun _ h9 => h9) rfl hin rfl (by decide +kernel) rfl rfl (Nat.le_of_ble_eq_true rfl) hdg (fun H1 locs1 hP1 hD1 hS1 => kk H1 locs1 (hnew _ _ hP1 hD1) hS1)
theorem g_X7_X7_bound (hx : p.tables.exec = Jvm.exec) (hb : c.code = cc) (hown : s.vm.findClass RX7 = some m.cls) (hK : KB D cy s) (hW : HW D z0 ad V H) {v0 v1 v2 v3 v4 v5 v6 v7 v8 v9 v10 v11 v12 v13 v14 v15 v16 v17 v18 v19 v20 v21 v22 v23 v24 v25 v26 v27 : Value} (hV : V L = some (.inr (7, [v0, v1, v2, v3, v4, v5, v6, v7, v8, v9, v10, v11, v12, v13, v14, v15, v16, v17, v18, v19, v20, v21, v22, v23, v24, v25, v26, v27]))) (hdg : decode cc pc = .ok (.getfield 16, 3)) (kk : W p l e R s m args below meth c H locs cells slots Q (F0 m (pc + 3) ls (v4 :: rest))) : W p l e R s m args below meth c H locs cells slots Q (F0 m pc ls (.ref (ad L) :: rest)) :=
  va_get (own := RX7) (ref := "ScoreDifferencesModel") (C := RX7) (T := TX7) (N := 28) (ci := 7) hx hb (hK.1.use args) inT7 hown hK.2 (hW.rd hV) 0 rfl rfl 4 (by decide) (hK.1.use args _ tw_493) (fun _ h9 => h9) rfl hdg kk
theorem p_X7_X7_bound (hx : p.tables.exec = Jvm.exec) (hb : c.code = cc) (hown : s.vm.findClass RX7 = some m.cls) (hin : meth.name = "<init>") (hK : KB D cy s) (hW : HW D z0 ad V H) (hS : va_S (AA z0) H0 H locs) {v0 v1 v2 v3 v4 v5 v6 v7 v8 v9 v10 v11 v12 v13 v14 v15 v16 v17 v18 v19 v20 v21 v22 v23 v24 v25 v26 v27 : Value} {x : Nat} (hV : V L = some (.inr (7, [v0, v1, v2, v3, v4, v5, v6, v7, v8, v9, v10, v11, v12, v13, v14, v15, v16, v17, v18, v19, v20, v21, v22, v23, v24, v25, v26, v27]))) (hdg : decode cc pc = .ok (.putfield 16, 3))
    (kk : ∀ (H1 : Heap) (locs1 : List Loc), HW D z0 ad (va_up V L (some (.inr (7, [v0, v1, v2, v3, .ref x, v5, v6, v7, v8, v9, v10, v11, v12, v13, v14, v15, v16, v17, v18, v19, v20, v21, v22, v23, v24, v25, v26, v27])))) H1 → va_S (AA z0) H0 H1 locs1 → W p l e R s m args below meth c H1 locs1 cells slots Q (F0 m (pc + 3) ls rest)) : W p l e R s m args below meth c H locs cells slots Q (F0 m pc ls (.ref x :: .ref (ad L) :: rest)) := by
  obtain ⟨ws, k, hP, hD, hk, hnew⟩ := hW.wr hV
  exact va_putF (own := RX7) (ref := "ScoreDifferencesModel") (C := RX7) (T := TX7) (N := 28) (ci := 7) (ty := (tyX7 4)) hx hb (hK.1.use args) inT7 tyX7 tyX7_ok nmX7 hown hK.2 hP hD hS k hk rfl 4 (by decide) (hK.1.use args _ tw_493) (fun _ h9 => h9) rfl hin rfl (by decide +kernel) rfl rfl (Nat.le_of_ble_eq_true rfl) hdg (fun H1 locs1 hP1 hD1 hS1 => kk H1 locs1 (hnew _ _ hP1 hD1) hS1)
theorem g_X7_X7_weight (hx : p.tables.exec = Jvm.exec) (hb : c.code = cc) (hown : s.vm.findClass RX7 = some m.cls) (hK : KB D cy s) (hW : HW D z0 ad V H) {v0 v1 v2 v3 v4 v5 v6 v7 v8 v9 v10 v11 v12 v13 v14 v15 v16 v17 v18 v19 v20 v21 v22 v23 v24 v25 v26 v27 : Value} (hV : V L = some (.inr (7, [v0, v1, v2, v3, v4, v5, v6, v7, v8, v9, v10, v11, v12, v13, v14, v15, v16, v17, v18, v19, v20, v21, v22, v23, v24, v25, v26, v27]))) (hdg : decode cc pc = .ok (.getfield 19, 3)) (kk : W p l e R s m args below meth c H locs cells slots Q (F0 m (pc + 3) ls (v5 :: rest))) : W p l e R s m args below meth c H locs cells slots Q (F0 m pc ls (.ref (ad L) :: rest)) :=
  va_get (own := RX7) (ref := "ScoreDifferencesModel") (C := RX7) (T := TX7) (N := 28) (ci := 7) hx hb (hK.1.use args) inT7 hown hK.2 (hW.rd hV) 0 rfl rfl 5 (by decide) (hK.1.use args _ tw_494) (fun _ h9 => h9) rfl hdg kk
theorem p_X7_X7_weight (hx : p.tables.exec = Jvm.exec) (hb : c.code = cc) (hown : s.vm.findClass RX7 = some m.cls) (hin : meth.name = "<init>") (hK : KB D cy s) (hW : HW D z0 ad V H) (hS : va_S (AA z0) H0 H locs) {v0 v1 v2 v3 v4 v5 v6 v7 v8 v9 v10 v11 v12 v13 v14 v15 v16 v17 v18 v19 v20 v21 v22 v23 v24 v25 v26 v27 : Value} {x : Nat} (hV : V L = some (.inr (7, [v0, v1, v2, v3, v4, v5, v6, v7, v8, v9, v10, v11, v12, v13, v14, v15, v16, v17, v18, v19, v20, v21, v22, v23, v24, v25, v26, v27]))) (hdg : decode cc pc = .ok (.putfield 19, 3))
    (kk : ∀ (H1 : Heap) (locs1 : List Loc), HW D z0 ad (va_up V L (some (.inr (7, [v0, v1, v2, v3, v4, .ref x, v6, v7, v8, v9, v10, v11, v12, v13, v14, v15, v16, v17, v18, v19, v20, v21, v22, v23, v24, v25, v26, v27])))) H1 → va_S (AA z0) H0 H1 locs1 → W p l e R s m args below meth c H1 locs1 cells slots Q (F0 m (pc + 3) ls rest)) : W p l e R s m args below meth c H locs cells slots Q (F0 m pc ls (.ref x :: .ref (ad L) :: rest)) := by
  obtain ⟨ws, k, hP, hD, hk, hnew⟩ := hW.wr hV
  exact va_putF (own := RX7) (ref := "ScoreDifferencesModel") (C := RX7) (T := TX7) (N := 28) (ci := 7) (ty := (tyX7 5)) hx hb (hK.1.use args) inT7 tyX7 tyX7_ok nmX7 hown hK.2 hP hD hS k hk rfl 5 (by decide) (hK.1.use args _ tw_494) (fun _ h9 => h9) rfl hin rfl (by decide +kernel) rfl rfl (Nat.le_of_ble_eq_true rfl) hdg (fun H1 locs1 hP1 hD1 hS1 => kk H1 locs1 (hnew _ _ hP1 hD1) hS1)
theorem g_X7_X7_level (hx : p.tables.exec = Jvm.exec) (hb : c.code = cc) (hown : s.vm.findClass RX7 = some m.cls) (hK : KB D cy s) (hW : HW D z0 ad V H) {v0 v1 v2 v3 v4 v5 v6 v7 v8 v9 v10 v11 v12 v13 v14 v15 v16 v17 v18 v19 v20 v21 v22 v23 v24 v25 v26 v27 : Value} (hV : V L = some (.inr (7, [v0, v1, v2, v3, v4, v5, v6, v7, v8, v9, v10, v11, v12, v13, v14, v15, v16, v17, v18, v19, v20, v21, v22, v23, v24, v25, v26, v27]))) (hdg : decode cc pc = .ok (.getfield 22, 3)) (kk : W p l e R s m args below meth c H locs cells slots Q (F0 m (pc + 3) ls (v6 :: rest))) : W p l e R s m args below meth c H locs cells slots Q (F0 m pc ls (.ref (ad L) :: rest)) :=
  va_get (own := RX7) (ref := "ScoreDifferencesModel") (C := RX7) (T := TX7) (N := 28) (ci := 7) hx hb (hK.1.use args) inT7 hown hK.2 (hW.rd hV) 0 rfl rfl 6 (by decide) (hK.1.use args _ tw_495) (fun _ h9 => h9) rfl hdg kk
theorem p_X7_X7_level (hx : p.tables.exec = Jvm.exec) (hb : c.code = cc) (hown : s.vm.findClass RX7 = some m.cls) (hin : meth.name = "<init>") (hK : KB D cy s) (hW : HW D z0 ad V H) (hS : va_S (AA z0) H0 H locs) {v0 v1 v2 v3 v4 v5 v6 v7 v8 v9 v10 v11 v12 v13 v14 v15 v16 v17 v18 v19 v20 v21 v22 v23 v24 v25 v26 v27 : Value} {x : Nat} (hV : V L = some (.inr (7, [v0, v1, v2, v3, v4, v5, v6, v7, v8, v9, v10, v11, v12, v13, v14, v15, v16, v17, v18, v19, v20, v21, v22, v23, v24, v25, v26, v27]))) (hdg : decode cc pc = .ok (.putfield 22, 3))
    (kk : ∀ (H1 : Heap) (locs1 : List Loc), HW D z0 ad (va_up V L (some (.inr (7, [v0, v1, v2, v3, v4, v5, .ref x, v7, v8, v9, v10, v11, v12, v13, v14, v15, v16, v17, v18, v19, v20, v21, v22, v23, v24, v25, v26, v27])))) H1 → va_S (AA z0) H0 H1 locs1 → W p l e R s m args below meth c H1 locs1 cells slots Q (F0 m (pc + 3) ls rest)) : W p l e R s m args below meth c H locs cells slots Q (F0 m pc ls (.ref x :: .ref (ad L) :: rest)) := by
  obtain ⟨ws, k, hP, hD, hk, hnew⟩ := hW.wr hV
  exact va_putF (own := RX7) (ref := "ScoreDifferencesModel") (C := RX7) (T := TX7) (N := 28) (ci := 7) (ty := (tyX7 6)) hx hb (hK.1.use args) inT7 tyX7 tyX7_ok nmX7 hown hK.2 hP hD hS k hk rfl 6 (by decide) (hK.1.use args _ tw_495) (fun _ h9 => h9) rfl hin rfl (by decide +kernel) rfl rfl (Nat.le_of_ble_eq_true rfl) hdg (fun H1 locs1 hP1 hD1 hS1 => kk H1 locs1 (hnew _ _ hP1 hD1) hS1)
theorem g_X7_X7_plans (hx : p.tables.exec = Jvm.exec) (hb : c.code = cc) (hown : s.vm.findClass RX7 = some m.cls) (hK : KB D cy s) (hW : HW D z0 ad V H) {v0 v1 v2 v3 v4 v5 v6 v7 v8 v9 v10 v11 v12 v13 v14 v15 v16 v17 v18 v19 v20 v21 v22 v23 v24 v25 v26 v27 : Value} (hV : V L = some (.inr (7, [v0, v1, v2, v3, v4, v5, v6, v7, v8, v9, v10, v11, v12, v13, v14, v15, v16, v17, v18, v19, v20, v21, v22, v23, v24, v25, v26, v27]))) (hdg : decode cc pc = .ok (.getfield 25, 3)) (kk : W p l e R s m args below meth c H locs cells slots Q (F0 m (pc + 3) ls (v7 :: rest))) : W p l e R s m args below meth c H locs cells slots Q (F0 m pc ls (.ref (ad L) :: rest)) :=
  va_get (own := RX7) (ref := "ScoreDifferencesModel") (C := RX7) (T := TX7) (N := 28) (ci := 7) hx hb (hK.1.use args) inT7 hown hK.2 (hW.rd hV) 0 rfl rfl 7 (by decide) (hK.1.use args _ tw_496) (fun _ h9 => h9) rfl hdg kk
theorem p_X7_X7_plans (hx : p.tables.exec = Jvm.exec) (hb : c.code = cc) (hown : s.vm.findClass RX7 = some m.cls) (hK : KB D cy s) (hW : HW D z0 ad V H) (hS : va_S (AA z0) H0 H locs) {v0 v1 v2 v3 v4 v5 v6 v7 v8 v9 v10 v11 v12 v13 v14 v15 v16 v17 v18 v19 v20 v21 v22 v23 v24 v25 v26 v27 : Value} {x : Int32} (hV : V L = some (.inr (7, [v0, v1, v2, v3, v4, v5, v6, v7, v8, v9, v10, v11, v12, v13, v14, v15, v16, v17, v18, v19, v20, v21, v22, v23, v24, v25, v26, v27]))) (hdg : decode cc pc = .ok (.putfield 25, 3))
    (kk : ∀ (H1 : Heap) (locs1 : List Loc), HW D z0 ad (va_up V L (some (.inr (7, [v0, v1, v2, v3, v4, v5, v6, .int x, v8, v9, v10, v11, v12, v13, v14, v15, v16, v17, v18, v19, v20, v21, v22, v23, v24, v25, v26, v27])))) H1 → va_S (AA z0) H0 H1 locs1 → W p l e R s m args below meth c H1 locs1 cells slots Q (F0 m (pc + 3) ls rest)) : W p l e R s m args below meth c H locs cells slots Q (F0 m pc ls (.int x :: .ref (ad L) :: rest)) := by
  obtain ⟨ws, k, hP, hD, hk, hnew⟩ := hW.wr hV
  exact va_put (own := RX7) (ref := "ScoreDifferencesModel") (C := RX7) (T := TX7) (N := 28) (ci := 7) (ty := .int) hx hb (hK.1.use args) inT7 tyX7 tyX7_ok nmX7 hown hK.2 hP hD hS k hk rfl 7 (by decide) (hK.1.use args _ tw_496) (fun _ h9 => h9) rfl (by decide +kernel) rfl rfl (Nat.le_of_ble_eq_true rfl) hdg (fun H1 locs1 hP1 hD1 hS1 => kk H1 locs1 (hnew _ _ hP1 hD1) hS1)
theorem g_X7_X7_member (hx : p.tables.exec = Jvm.exec) (hb : c.code = cc) (hown : s.vm.findClass RX7 = some m.cls) (hK : KB D cy s) (hW : HW D z0 ad V H) {v0 v1 v2 v3 v4 v5 v6 v7 v8 v9 v10 v11 v12 v13 v14 v15 v16 v17 v18 v19 v20 v21 v22 v23 v24 v25 v26 v27 : Value} (hV : V L = some (.inr (7, [v0, v1, v2, v3, v4, v5, v6, v7, v8, v9, v10, v11, v12, v13, v14, v15, v16, v17, v18, v19, v20, v21, v22, v23, v24, v25, v26, v27]))) (hdg : decode cc pc = .ok (.getfield 29, 3)) (kk : W p l e R s m args below meth c H locs cells slots Q (F0 m (pc + 3) ls (v8 :: rest))) : W p l e R s m args below meth c H locs cells slots Q (F0 m pc ls (.ref (ad L) :: rest)) :=
  va_get (own := RX7) (ref := "ScoreDifferencesModel") (C := RX7) (T := TX7) (N := 28) (ci := 7) hx hb (hK.1.use args) inT7 hown hK.2 (hW.rd hV) 0 rfl rfl 8 (by decide) (hK.1.use args _ tw_497) (fun _ h9 => h9) rfl hdg kk
theorem p_X7_X7_member (hx : p.tables.exec = Jvm.exec) (hb : c.code = cc) (hown : s.vm.findClass RX7 = some m.cls) (hin : meth.name = "<init>") (hK : KB D cy s) (hW : HW D z0 ad V H) (hS : va_S (AA z0) H0 H locs) {v0 v1 v2 v3 v4 v5 v6 v7 v8 v9 v10 v11 v12 v13 v14 v15 v16 v17 v18 v19 v20 v21 v22 v23 v24 v25 v26 v27 : Value} {x : Nat} (hV : V L = some (.inr (7, [v0, v1, v2, v3, v4, v5, v6, v7, v8, v9, v10, v11, v12, v13, v14, v15, v16, v17, v18, v19, v20, v21, v22, v23, v24, v25, v26, v27]))) (hdg : decode cc pc = .ok (.putfield 29, 3))
    (kk : ∀ (H1 : Heap) (locs1 : List Loc), HW D z0 ad (va_up V L (some (.inr (7, [v0, v1, v2, v3, v4, v5, v6, v7, .ref x, v9, v10, v11, v12, v13, v14, v15, v16, v17, v18, v19, v20, v21, v22, v23, v24, v25, v26, v27])))) H1 → va_S (AA z0) H0 H1 locs1 → W p l e R s m args below meth c H1 locs1 cells slots Q (F0 m (pc + 3) ls rest)) : W p l e R s m args below meth c H locs cells slots Q (F0 m pc ls (.ref x :: .ref (ad L) :: rest)) := by
  obtain ⟨ws, k, hP, hD, hk, hnew⟩ := hW.wr hV
  exact va_putF (own := RX7) (ref := "ScoreDifferencesModel") (C := RX7) (T := TX7) (N := 28) (ci := 7) (ty := (tyX7 8)) hx hb (hK.1.use args) inT7 tyX7 tyX7_ok nmX7 hown hK.2 hP hD hS k hk rfl 8 (by decide) (hK.1.use args _ tw_497) (fun _ h9 => h9) rfl hin rfl (by decide +kernel) rfl rfl (Nat.le_of_ble_eq_true rfl) hdg (fun H1 locs1 hP1 hD1 hS1 => kk H1 locs1 (hnew _ _ hP1 hD1) hS1)
theorem g_X7_X7_kept (hx : p.tables.exec = Jvm.exec) (hb : c.code = cc) (hown : s.vm.findClass RX7 = some m.cls) (hK : KB D cy s) (hW : HW D z0 ad V H) {v0 v1 v2 v3 v4 v5 v6 v7 v8 v9 v10 v11 v12 v13 v14 v15 v16 v17 v18 v19 v20 v21 v22 v23 v24 v25 v26 v27 : Value} (hV : V L = some (.inr (7, [v0, v1, v2, v3, v4, v5, v6, v7, v8, v9, v10, v11, v12, v13, v14, v15, v16, v17, v18, v19, v20, v21, v22, v23, v24, v25, v26, v27]))) (hdg : decode cc pc = .ok (.getfield 32, 3)) (kk : W p l e R s m args below meth c H locs cells slots Q (F0 m (pc + 3) ls (v9 :: rest))) : W p l e R s m args below meth c H locs cells slots Q (F0 m pc ls (.ref (ad L) :: rest)) :=
  va_get (own := RX7) (ref := "ScoreDifferencesModel") (C := RX7) (T := TX7) (N := 28) (ci := 7) hx hb (hK.1.use args) inT7 hown hK.2 (hW.rd hV) 0 rfl rfl 9 (by decide) (hK.1.use args _ tw_498) (fun _ h9 => h9) rfl hdg kk
theorem p_X7_X7_kept (hx : p.tables.exec = Jvm.exec) (hb : c.code = cc) (hown : s.vm.findClass RX7 = some m.cls) (hin : meth.name = "<init>") (hK : KB D cy s) (hW : HW D z0 ad V H) (hS : va_S (AA z0) H0 H locs) {v0 v1 v2 v3 v4 v5 v6 v7 v8 v9 v10 v11 v12 v13 v14 v15 v16 v17 v18 v19 v20 v21 v22 v23 v24 v25 v26 v27 : Value} {x : Nat} (hV : V L = some (.inr (7, [v0, v1, v2, v3, v4, v5, v6, v7, v8, v9, v10, v11, v12, v13, v14, v15, v16, v17, v18, v19, v20, v21, v22, v23, v24, v25, v26, v27]))) (hdg : decode cc pc = .ok (.putfield 32, 3))
    (kk : ∀ (H1 : Heap) (locs1 : List Loc), HW D z0 ad (va_up V L (some (.inr (7, [v0, v1, v2, v3, v4, v5, v6, v7, v8, .ref x, v10, v11, v12, v13, v14, v15, v16, v17, v18, v19, v20, v21, v22, v23, v24, v25, v26, v27])))) H1 → va_S (AA z0) H0 H1 locs1 → W p l e R s m args below meth c H1 locs1 cells slots Q (F0 m (pc + 3) ls rest)) : W p l e R s m args below meth c H locs cells slots Q (F0 m pc ls (.ref x :: .ref (ad L) :: rest)) := by
  obtain ⟨ws, k, hP, hD, hk, hnew⟩ := hW.wr hV
  exact va_putF (own := RX7) (ref := "ScoreDifferencesModel") (C := RX7) (T := TX7) (N := 28) (ci := 7) (ty := (tyX7 9)) hx hb (hK.1.use args) inT7 tyX7 tyX7_ok nmX7 hown hK.2 hP hD hS k hk rfl 9 (by decide) (hK.1.use args _ tw_498) (fun _ h9 => h9) rfl hin rfl (by decide +kernel) rfl rfl (Nat.le_of_ble_eq_true rfl) hdg (fun H1 locs1 hP1 hD1 hS1 => kk H1 locs1 (hnew _ _ hP1 hD1) hS1)
theorem g_X7_X7_forgets (hx : p.tables.exec = Jvm.exec) (hb : c.code = cc) (hown : s.vm.findClass RX7 = some m.cls) (hK : KB D cy s) (hW : HW D z0 ad V H) {v0 v1 v2 v3 v4 v5 v6 v7 v8 v9 v10 v11 v12 v13 v14 v15 v16 v17 v18 v19 v20 v21 v22 v23 v24 v25 v26 v27 : Value} (hV : V L = some (.inr (7, [v0, v1, v2, v3, v4, v5, v6, v7, v8, v9, v10, v11, v12, v13, v14, v15, v16, v17, v18, v19, v20, v21, v22, v23, v24, v25, v26, v27]))) (hdg : decode cc pc = .ok (.getfield 36, 3)) (kk : W p l e R s m args below meth c H locs cells slots Q (F0 m (pc + 3) ls (v10 :: rest))) : W p l e R s m args below meth c H locs cells slots Q (F0 m pc ls (.ref (ad L) :: rest)) :=
  va_get (own := RX7) (ref := "ScoreDifferencesModel") (C := RX7) (T := TX7) (N := 28) (ci := 7) hx hb (hK.1.use args) inT7 hown hK.2 (hW.rd hV) 0 rfl rfl 10 (by decide) (hK.1.use args _ tw_499) (fun _ h9 => h9) rfl hdg kk
theorem p_X7_X7_forgets (hx : p.tables.exec = Jvm.exec) (hb : c.code = cc) (hown : s.vm.findClass RX7 = some m.cls) (hin : meth.name = "<init>") (hK : KB D cy s) (hW : HW D z0 ad V H) (hS : va_S (AA z0) H0 H locs) {v0 v1 v2 v3 v4 v5 v6 v7 v8 v9 v10 v11 v12 v13 v14 v15 v16 v17 v18 v19 v20 v21 v22 v23 v24 v25 v26 v27 : Value} {x : Nat} (hV : V L = some (.inr (7, [v0, v1, v2, v3, v4, v5, v6, v7, v8, v9, v10, v11, v12, v13, v14, v15, v16, v17, v18, v19, v20, v21, v22, v23, v24, v25, v26, v27]))) (hdg : decode cc pc = .ok (.putfield 36, 3))
    (kk : ∀ (H1 : Heap) (locs1 : List Loc), HW D z0 ad (va_up V L (some (.inr (7, [v0, v1, v2, v3, v4, v5, v6, v7, v8, v9, .ref x, v11, v12, v13, v14, v15, v16, v17, v18, v19, v20, v21, v22, v23, v24, v25, v26, v27])))) H1 → va_S (AA z0) H0 H1 locs1 → W p l e R s m args below meth c H1 locs1 cells slots Q (F0 m (pc + 3) ls rest)) : W p l e R s m args below meth c H locs cells slots Q (F0 m pc ls (.ref x :: .ref (ad L) :: rest)) := by
  obtain ⟨ws, k, hP, hD, hk, hnew⟩ := hW.wr hV
  exact va_putF (own := RX7) (ref := "ScoreDifferencesModel") (C := RX7) (T := TX7) (N := 28) (ci := 7) (ty := (tyX7 10)) hx hb (hK.1.use args) inT7 tyX7 tyX7_ok nmX7 hown hK.2 hP hD hS k hk rfl 10 (by decide) (hK.1.use args _ tw_499) (fun _ h9 => h9) rfl hin rfl (by decide +kernel) rfl rfl (Nat.le_of_ble_eq_true rfl) hdg (fun H1 locs1 hP1 hD1 hS1 => kk H1 locs1 (hnew _ _ hP1 hD1) hS1)
theorem g_X7_X7_changes (hx : p.tables.exec = Jvm.exec) (hb : c.code = cc) (hown : s.vm.findClass RX7 = some m.cls) (hK : KB D cy s) (hW : HW D z0 ad V H) {v0 v1 v2 v3 v4 v5 v6 v7 v8 v9 v10 v11 v12 v13 v14 v15 v16 v17 v18 v19 v20 v21 v22 v23 v24 v25 v26 v27 : Value} (hV : V L = some (.inr (7, [v0, v1, v2, v3, v4, v5, v6, v7, v8, v9, v10, v11, v12, v13, v14, v15, v16, v17, v18, v19, v20, v21, v22, v23, v24, v25, v26, v27]))) (hdg : decode cc pc = .ok (.getfield 40, 3)) (kk : W p l e R s m args below meth c H locs cells slots Q (F0 m (pc + 3) ls (v11 :: rest))) : W p l e R s m args below meth c H locs cells slots Q (F0 m pc ls (.ref (ad L) :: rest)) :=
  va_get (own := RX7) (ref := "ScoreDifferencesModel") (C := RX7) (T := TX7) (N := 28) (ci := 7) hx hb (hK.1.use args) inT7 hown hK.2 (hW.rd hV) 0 rfl rfl 11 (by decide) (hK.1.use args _ tw_500) (fun _ h9 => h9) rfl hdg kk
theorem p_X7_X7_changes (hx : p.tables.exec = Jvm.exec) (hb : c.code = cc) (hown : s.vm.findClass RX7 = some m.cls) (hin : meth.name = "<init>") (hK : KB D cy s) (hW : HW D z0 ad V H) (hS : va_S (AA z0) H0 H locs) {v0 v1 v2 v3 v4 v5 v6 v7 v8 v9 v10 v11 v12 v13 v14 v15 v16 v17 v18 v19 v20 v21 v22 v23 v24 v25 v26 v27 : Value} {x : Nat} (hV : V L = some (.inr (7, [v0, v1, v2, v3, v4, v5, v6, v7, v8, v9, v10, v11, v12, v13, v14, v15, v16, v17, v18, v19, v20, v21, v22, v23, v24, v25, v26, v27]))) (hdg : decode cc pc = .ok (.putfield 40, 3))
    (kk : ∀ (H1 : Heap) (locs1 : List Loc), HW D z0 ad (va_up V L (some (.inr (7, [v0, v1, v2, v3, v4, v5, v6, v7, v8, v9, v10, .ref x, v12, v13, v14, v15, v16, v17, v18, v19, v20, v21, v22, v23, v24, v25, v26, v27])))) H1 → va_S (AA z0) H0 H1 locs1 → W p l e R s m args below meth c H1 locs1 cells slots Q (F0 m (pc + 3) ls rest)) : W p l e R s m args below meth c H locs cells slots Q (F0 m pc ls (.ref x :: .ref (ad L) :: rest)) := by
  obtain ⟨ws, k, hP, hD, hk, hnew⟩ := hW.wr hV
  exact va_putF (own := RX7) (ref := "ScoreDifferencesModel") (C := RX7) (T := TX7) (N := 28) (ci := 7) (ty := (tyX7 11)) hx hb (hK.1.use args) inT7 tyX7 tyX7_ok nmX7 hown hK.2 hP hD hS k hk rfl 11 (by decide) (hK.1.use args _ tw_500) (fun _ h9 => h9) rfl hin rfl (by decide +kernel) rfl rfl (Nat.le_of_ble_eq_true rfl) hdg (fun H1 locs1 hP1 hD1 hS1 => kk H1 locs1 (hnew _ _ hP1 hD1) hS1)
theorem g_X7_X7_cost (hx : p.tables.exec = Jvm.exec) (hb : c.code = cc) (hown : s.vm.findClass RX7 = some m.cls) (hK : KB D cy s) (hW : HW D z0 ad V H) {v0 v1 v2 v3 v4 v5 v6 v7 v8 v9 v10 v11 v12 v13 v14 v15 v16 v17 v18 v19 v20 v21 v22 v23 v24 v25 v26 v27 : Value} (hV : V L = some (.inr (7, [v0, v1, v2, v3, v4, v5, v6, v7, v8, v9, v10, v11, v12, v13, v14, v15, v16, v17, v18, v19, v20, v21, v22, v23, v24, v25, v26, v27]))) (hdg : decode cc pc = .ok (.getfield 43, 3)) (kk : W p l e R s m args below meth c H locs cells slots Q (F0 m (pc + 3) ls (v12 :: rest))) : W p l e R s m args below meth c H locs cells slots Q (F0 m pc ls (.ref (ad L) :: rest)) :=
  va_get (own := RX7) (ref := "ScoreDifferencesModel") (C := RX7) (T := TX7) (N := 28) (ci := 7) hx hb (hK.1.use args) inT7 hown hK.2 (hW.rd hV) 0 rfl rfl 12 (by decide) (hK.1.use args _ tw_501) (fun _ h9 => h9) rfl hdg kk
theorem p_X7_X7_cost (hx : p.tables.exec = Jvm.exec) (hb : c.code = cc) (hown : s.vm.findClass RX7 = some m.cls) (hin : meth.name = "<init>") (hK : KB D cy s) (hW : HW D z0 ad V H) (hS : va_S (AA z0) H0 H locs) {v0 v1 v2 v3 v4 v5 v6 v7 v8 v9 v10 v11 v12 v13 v14 v15 v16 v17 v18 v19 v20 v21 v22 v23 v24 v25 v26 v27 : Value} {x : Nat} (hV : V L = some (.inr (7, [v0, v1, v2, v3, v4, v5, v6, v7, v8, v9, v10, v11, v12, v13, v14, v15, v16, v17, v18, v19, v20, v21, v22, v23, v24, v25, v26, v27]))) (hdg : decode cc pc = .ok (.putfield 43, 3))
    (kk : ∀ (H1 : Heap) (locs1 : List Loc), HW D z0 ad (va_up V L (some (.inr (7, [v0, v1, v2, v3, v4, v5, v6, v7, v8, v9, v10, v11, .ref x, v13, v14, v15, v16, v17, v18, v19, v20, v21, v22, v23, v24, v25, v26, v27])))) H1 → va_S (AA z0) H0 H1 locs1 → W p l e R s m args below meth c H1 locs1 cells slots Q (F0 m (pc + 3) ls rest)) : W p l e R s m args below meth c H locs cells slots Q (F0 m pc ls (.ref x :: .ref (ad L) :: rest)) := by
  obtain ⟨ws, k, hP, hD, hk, hnew⟩ := hW.wr hV
  exact va_putF (own := RX7) (ref := "ScoreDifferencesModel") (C := RX7) (T := TX7) (N := 28) (ci := 7) (ty := (tyX7 12)) hx hb (hK.1.use args) inT7 tyX7 tyX7_ok nmX7 hown hK.2 hP hD hS k hk rfl 12 (by decide) (hK.1.use args _ tw_501) (fun _ h9 => h9) rfl hin rfl (by decide +kernel) rfl rfl (Nat.le_of_ble_eq_true rfl) hdg (fun H1 locs1 hP1 hD1 hS1 => kk H1 locs1 (hnew _ _ hP1 hD1) hS1)
theorem g_X7_X7_found (hx : p.tables.exec = Jvm.exec) (hb : c.code = cc) (hown : s.vm.findClass RX7 = some m.cls) (hK : KB D cy s) (hW : HW D z0 ad V H) {v0 v1 v2 v3 v4 v5 v6 v7 v8 v9 v10 v11 v12 v13 v14 v15 v16 v17 v18 v19 v20 v21 v22 v23 v24 v25 v26 v27 : Value} (hV : V L = some (.inr (7, [v0, v1, v2, v3, v4, v5, v6, v7, v8, v9, v10, v11, v12, v13, v14, v15, v16, v17, v18, v19, v20, v21, v22, v23, v24, v25, v26, v27]))) (hdg : decode cc pc = .ok (.getfield 46, 3)) (kk : W p l e R s m args below meth c H locs cells slots Q (F0 m (pc + 3) ls (v13 :: rest))) : W p l e R s m args below meth c H locs cells slots Q (F0 m pc ls (.ref (ad L) :: rest)) :=
  va_get (own := RX7) (ref := "ScoreDifferencesModel") (C := RX7) (T := TX7) (N := 28) (ci := 7) hx hb (hK.1.use args) inT7 hown hK.2 (hW.rd hV) 0 rfl rfl 13 (by decide) (hK.1.use args _ tw_502) (fun _ h9 => h9) rfl hdg kk
theorem p_X7_X7_found (hx : p.tables.exec = Jvm.exec) (hb : c.code = cc) (hown : s.vm.findClass RX7 = some m.cls) (hin : meth.name = "<init>") (hK : KB D cy s) (hW : HW D z0 ad V H) (hS : va_S (AA z0) H0 H locs) {v0 v1 v2 v3 v4 v5 v6 v7 v8 v9 v10 v11 v12 v13 v14 v15 v16 v17 v18 v19 v20 v21 v22 v23 v24 v25 v26 v27 : Value} {x : Nat} (hV : V L = some (.inr (7, [v0, v1, v2, v3, v4, v5, v6, v7, v8, v9, v10, v11, v12, v13, v14, v15, v16, v17, v18, v19, v20, v21, v22, v23, v24, v25, v26, v27]))) (hdg : decode cc pc = .ok (.putfield 46, 3))
    (kk : ∀ (H1 : Heap) (locs1 : List Loc), HW D z0 ad (va_up V L (some (.inr (7, [v0, v1, v2, v3, v4, v5, v6, v7, v8, v9, v10, v11, v12, .ref x, v14, v15, v16, v17, v18, v19, v20, v21, v22, v23, v24, v25, v26, v27])))) H1 → va_S (AA z0) H0 H1 locs1 → W p l e R s m args below meth c H1 locs1 cells slots Q (F0 m (pc + 3) ls rest)) : W p l e R s m args below meth c H locs cells slots Q (F0 m pc ls (.ref x :: .ref (ad L) :: rest)) := by
  obtain ⟨ws, k, hP, hD, hk, hnew⟩ := hW.wr hV
  exact va_putF (own := RX7) (ref := "ScoreDifferencesModel") (C := RX7) (T := TX7) (N := 28) (ci := 7) (ty := (tyX7 13)) hx hb (hK.1.use args) inT7 tyX7 tyX7_ok nmX7 hown hK.2 hP hD hS k hk rfl 13 (by decide) (hK.1.use args _ tw_502) (fun _ h9 => h9) rfl hin rfl (by decide +kernel) rfl rfl (Nat.le_of_ble_eq_true rfl) hdg (fun H1 locs1 hP1 hD1 hS1 => kk H1 locs1 (hnew _ _ hP1 hD1) hS1)
theorem g_X7_X7_isBatch (hx : p.tables.exec = Jvm.exec) (hb : c.code = cc) (hown : s.vm.findClass RX7 = some m.cls) (hK : KB D cy s) (hW : HW D z0 ad V H) {v0 v1 v2 v3 v4 v5 v6 v7 v8 v9 v10 v11 v12 v13 v14 v15 v16 v17 v18 v19 v20 v21 v22 v23 v24 v25 v26 v27 : Value} (hV : V L = some (.inr (7, [v0, v1, v2, v3, v4, v5, v6, v7, v8, v9, v10, v11, v12, v13, v14, v15, v16, v17, v18, v19, v20, v21, v22, v23, v24, v25, v26, v27]))) (hdg : decode cc pc = .ok (.getfield 49, 3)) (kk : W p l e R s m args below meth c H locs cells slots Q (F0 m (pc + 3) ls (v14 :: rest))) : W p l e R s m args below meth c H locs cells slots Q (F0 m pc ls (.ref (ad L) :: rest)) :=
  va_get (own := RX7) (ref := "ScoreDifferencesModel") (C := RX7) (T := TX7) (N := 28) (ci := 7) hx hb (hK.1.use args) inT7 hown hK.2 (hW.rd hV) 0 rfl rfl 14 (by decide) (hK.1.use args _ tw_503) (fun _ h9 => h9) rfl hdg kk
theorem p_X7_X7_isBatch (hx : p.tables.exec = Jvm.exec) (hb : c.code = cc) (hown : s.vm.findClass RX7 = some m.cls) (hin : meth.name = "<init>") (hK : KB D cy s) (hW : HW D z0 ad V H) (hS : va_S (AA z0) H0 H locs) {v0 v1 v2 v3 v4 v5 v6 v7 v8 v9 v10 v11 v12 v13 v14 v15 v16 v17 v18 v19 v20 v21 v22 v23 v24 v25 v26 v27 : Value} {x : Nat} (hV : V L = some (.inr (7, [v0, v1, v2, v3, v4, v5, v6, v7, v8, v9, v10, v11, v12, v13, v14, v15, v16, v17, v18, v19, v20, v21, v22, v23, v24, v25, v26, v27]))) (hdg : decode cc pc = .ok (.putfield 49, 3))
    (kk : ∀ (H1 : Heap) (locs1 : List Loc), HW D z0 ad (va_up V L (some (.inr (7, [v0, v1, v2, v3, v4, v5, v6, v7, v8, v9, v10, v11, v12, v13, .ref x, v15, v16, v17, v18, v19, v20, v21, v22, v23, v24, v25, v26, v27])))) H1 → va_S (AA z0) H0 H1 locs1 → W p l e R s m args below meth c H1 locs1 cells slots Q (F0 m (pc + 3) ls rest)) : W p l e R s m args below meth c H locs cells slots Q (F0 m pc ls (.ref x :: .ref (ad L) :: rest)) := by
  obtain ⟨ws, k, hP, hD, hk, hnew⟩ := hW.wr hV
  exact va_putF (own := RX7) (ref := "ScoreDifferencesModel") (C := RX7) (T := TX7) (N := 28) (ci := 7) (ty := (tyX7 14)) hx hb (hK.1.use args) inT7 tyX7 tyX7_ok nmX7 hown hK.2 hP hD hS k hk rfl 14 (by decide) (hK.1.use args _ tw_503) (fun _ h9 => h9) rfl hin rfl (by decide +kernel) rfl rfl (Nat.le_of_ble_eq_true rfl) hdg (fun H1 locs1 hP1 hD1 hS1 => kk H1 locs1 (hnew _ _ hP1 hD1) hS1)
theorem g_X7_X7_batch (hx : p.tables.exec = Jvm.exec) (hb : c.code = cc) (hown : s.vm.findClass RX7 = some m.cls) (hK : KB D cy s) (hW : HW D z0 ad V H) {v0 v1 v2 v3 v4 v5 v6 v7 v8 v9 v10 v11 v12 v13 v14 v15 v16 v17 v18 v19 v20 v21 v22 v23 v24 v25 v26 v27 : Value} (hV : V L = some (.inr (7, [v0, v1, v2, v3, v4, v5, v6, v7, v8, v9, v10, v11, v12, v13, v14, v15, v16, v17, v18, v19, v20, v21, v22, v23, v24, v25, v26, v27]))) (hdg : decode cc pc = .ok (.getfield 52, 3)) (kk : W p l e R s m args below meth c H locs cells slots Q (F0 m (pc + 3) ls (v15 :: rest))) : W p l e R s m args below meth c H locs cells slots Q (F0 m pc ls (.ref (ad L) :: rest)) :=
  va_get (own := RX7) (ref := "ScoreDifferencesModel") (C := RX7) (T := TX7) (N := 28) (ci := 7) hx hb (hK.1.use args) inT7 hown hK.2 (hW.rd hV) 0 rfl rfl 15 (by decide) (hK.1.use args _ tw_504) (fun _ h9 => h9) rfl hdg kk
theorem p_X7_X7_batch (hx : p.tables.exec = Jvm.exec) (hb : c.code = cc) (hown : s.vm.findClass RX7 = some m.cls) (hin : meth.name = "<init>") (hK : KB D cy s) (hW : HW D z0 ad V H) (hS : va_S (AA z0) H0 H locs) {v0 v1 v2 v3 v4 v5 v6 v7 v8 v9 v10 v11 v12 v13 v14 v15 v16 v17 v18 v19 v20 v21 v22 v23 v24 v25 v26 v27 : Value} {x : Nat} (hV : V L = some (.inr (7, [v0, v1, v2, v3, v4, v5, v6, v7, v8, v9, v10, v11, v12, v13, v14, v15, v16, v17, v18, v19, v20, v21, v22, v23, v24, v25, v26, v27]))) (hdg : decode cc pc = .ok (.putfield 52, 3))
    (kk : ∀ (H1 : Heap) (locs1 : List Loc), HW D z0 ad (va_up V L (some (.inr (7, [v0, v1, v2, v3, v4, v5, v6, v7, v8, v9, v10, v11, v12, v13, v14, .ref x, v16, v17, v18, v19, v20, v21, v22, v23, v24, v25, v26, v27])))) H1 → va_S (AA z0) H0 H1 locs1 → W p l e R s m args below meth c H1 locs1 cells slots Q (F0 m (pc + 3) ls rest)) : W p l e R s m args below meth c H locs cells slots Q (F0 m pc ls (.ref x :: .ref (ad L) :: rest)) := by
  obtain ⟨ws, k, hP, hD, hk, hnew⟩ := hW.wr hV
  exact va_putF (own := RX7) (ref := "ScoreDifferencesModel") (C := RX7) (T := TX7) (N := 28) (ci := 7) (ty := (tyX7 15)) hx hb (hK.1.use args) inT7 tyX7 tyX7_ok nmX7 hown hK.2 hP hD hS k hk rfl 15 (by decide) (hK.1.use args _ tw_504) (fun _ h9 => h9) rfl hin rfl (by decide +kernel) rfl rfl (Nat.le_of_ble_eq_true rfl) hdg (fun H1 locs1 hP1 hD1 hS1 => kk H1 locs1 (hnew _ _ hP1 hD1) hS1)
theorem g_X7_X7_known (hx : p.tables.exec = Jvm.exec) (hb : c.code = cc) (hown : s.vm.findClass RX7 = some m.cls) (hK : KB D cy s) (hW : HW D z0 ad V H) {v0 v1 v2 v3 v4 v5 v6 v7 v8 v9 v10 v11 v12 v13 v14 v15 v16 v17 v18 v19 v20 v21 v22 v23 v24 v25 v26 v27 : Value} (hV : V L = some (.inr (7, [v0, v1, v2, v3, v4, v5, v6, v7, v8, v9, v10, v11, v12, v13, v14, v15, v16, v17, v18, v19, v20, v21, v22, v23, v24, v25, v26, v27]))) (hdg : decode cc pc = .ok (.getfield 55, 3)) (kk : W p l e R s m args below meth c H locs cells slots Q (F0 m (pc + 3) ls (v16 :: rest))) : W p l e R s m args below meth c H locs cells slots Q (F0 m pc ls (.ref (ad L) :: rest)) :=
  va_get (own := RX7) (ref := "ScoreDifferencesModel") (C := RX7) (T := TX7) (N := 28) (ci := 7) hx hb (hK.1.use args) inT7 hown hK.2 (hW.rd hV) 0 rfl rfl 16 (by decide) (hK.1.use args _ tw_505) (fun _ h9 => h9) rfl hdg kk
theorem p_X7_X7_known (hx : p.tables.exec = Jvm.exec) (hb : c.code = cc) (hown : s.vm.findClass RX7 = some m.cls) (hin : meth.name = "<init>") (hK : KB D cy s) (hW : HW D z0 ad V H) (hS : va_S (AA z0) H0 H locs) {v0 v1 v2 v3 v4 v5 v6 v7 v8 v9 v10 v11 v12 v13 v14 v15 v16 v17 v18 v19 v20 v21 v22 v23 v24 v25 v26 v27 : Value} {x : Nat} (hV : V L = some (.inr (7, [v0, v1, v2, v3, v4, v5, v6, v7, v8, v9, v10, v11, v12, v13, v14, v15, v16, v17, v18, v19, v20, v21, v22, v23, v24, v25, v26, v27]))) (hdg : decode cc pc = .ok (.putfield 55, 3))
    (kk : ∀ (H1 : Heap) (locs1 : List Loc), HW D z0 ad (va_up V L (some (.inr (7, [v0, v1, v2, v3, v4, v5, v6, v7, v8, v9, v10, v11, v12, v13, v14, v15, .ref x, v17, v18, v19, v20, v21, v22, v23, v24, v25, v26, v27])))) H1 → va_S (AA z0) H0 H1 locs1 → W p l e R s m args below meth c H1 locs1 cells slots Q (F0 m (pc + 3) ls rest)) : W p l e R s m args below meth c H locs cells slots Q (F0 m pc ls (.ref x :: .ref (ad L) :: rest)) := by
  obtain ⟨ws, k, hP, hD, hk, hnew⟩ := hW.wr hV
  exact va_putF (own := RX7) (ref := "ScoreDifferencesModel") (C := RX7) (T := TX7) (N := 28) (ci := 7) (ty := (tyX7 16)) hx hb (hK.1.use args) inT7 tyX7 tyX7_ok nmX7 hown hK.2 hP hD hS k hk rfl 16 (by decide) (hK.1.use args _ tw_505) (fun _ h9 => h9) rfl hin rfl (by decide +kernel) rfl rfl (Nat.le_of_ble_eq_true rfl) hdg (fun H1 locs1 hP1 hD1 hS1 => kk H1 locs1 (hnew _ _ hP1 hD1) hS1)
theorem g_X7_X7_oldObject (hx : p.tables.exec = Jvm.exec) (hb : c.code = cc) (hown : s.vm.findClass RX7 = some m.cls) (hK : KB D cy s) (hW : HW D z0 ad V H) {v0 v1 v2 v3 v4 v5 v6 v7 v8 v9 v10 v11 v12 v13 v14 v15 v16 v17 v18 v19 v20 v21 v22 v23 v24 v25 v26 v27 : Value} (hV : V L = some (.inr (7, [v0, v1, v2, v3, v4, v5, v6, v7, v8, v9, v10, v11, v12, v13, v14, v15, v16, v17, v18, v19, v20, v21, v22, v23, v24, v25, v26, v27]))) (hdg : decode cc pc = .ok (.getfield 58, 3)) (kk : W p l e R s m args below meth c H locs cells slots Q (F0 m (pc + 3) ls (v17 :: rest))) : W p l e R s m args below meth c H locs cells slots Q (F0 m pc ls (.ref (ad L) :: rest)) :=
  va_get (own := RX7) (ref := "ScoreDifferencesModel") (C := RX7) (T := TX7) (N := 28) (ci := 7) hx hb (hK.1.use args) inT7 hown hK.2 (hW.rd hV) 0 rfl rfl 17 (by decide) (hK.1.use args _ tw_506) (fun _ h9 => h9) rfl hdg kk
theorem p_X7_X7_oldObject (hx : p.tables.exec = Jvm.exec) (hb : c.code = cc) (hown : s.vm.findClass RX7 = some m.cls) (hin : meth.name = "<init>") (hK : KB D cy s) (hW : HW D z0 ad V H) (hS : va_S (AA z0) H0 H locs) {v0 v1 v2 v3 v4 v5 v6 v7 v8 v9 v10 v11 v12 v13 v14 v15 v16 v17 v18 v19 v20 v21 v22 v23 v24 v25 v26 v27 : Value} {x : Nat} (hV : V L = some (.inr (7, [v0, v1, v2, v3, v4, v5, v6, v7, v8, v9, v10, v11, v12, v13, v14, v15, v16, v17, v18, v19, v20, v21, v22, v23, v24, v25, v26, v27]))) (hdg : decode cc pc = .ok (.putfield 58, 3))
    (kk : ∀ (H1 : Heap) (locs1 : List Loc), HW D z0 ad (va_up V L (some (.inr (7, [v0, v1, v2, v3, v4, v5, v6, v7, v8, v9, v10, v11, v12, v13, v14, v15, v16, .ref x, v18, v19, v20, v21, v22, v23, v24, v25, v26, v27])))) H1 → va_S (AA z0) H0 H1 locs1 → W p l e R s m args below meth c H1 locs1 cells slots Q (F0 m (pc + 3) ls rest)) : W p l e R s m args below meth c H locs cells slots Q (F0 m pc ls (.ref x :: .ref (ad L) :: rest)) := by
  obtain ⟨ws, k, hP, hD, hk, hnew⟩ := hW.wr hV
  exact va_putF (own := RX7) (ref := "ScoreDifferencesModel") (C := RX7) (T := TX7) (N := 28) (ci := 7) (ty := (tyX7 17)) hx hb (hK.1.use args) inT7 tyX7 tyX7_ok nmX7 hown hK.2 hP hD hS k hk rfl 17 (by decide) (hK.1.use args _ tw_506) (fun _ h9 => h9) rfl hin rfl (by decide +kernel) rfl rfl (Nat.le_of_ble_eq_true rfl) hdg (fun H1 locs1 hP1 hD1 hS1 => kk H1 locs1 (hnew _ _ hP1 hD1) hS1)
theorem g_X7_X7_oldMember (hx : p.tables.exec = Jvm.exec) (hb : c.code = cc) (hown : s.vm.findClass RX7 = some m.cls) (hK : KB D cy s) (hW : HW D z0 ad V H) {v0 v1 v2 v3 v4 v5 v6 v7 v8 v9 v10 v11 v12 v13 v14 v15 v16 v17 v18 v19 v20 v21 v22 v23 v24 v25 v26 v27 : Value} (hV : V L = some (.inr (7, [v0, v1, v2, v3, v4, v5, v6, v7, v8, v9, v10, v11, v12, v13, v14, v15, v16, v17, v18, v19, v20, v21, v22, v23, v24, v25, v26, v27]))) (hdg : decode cc pc = .ok (.getfield 61, 3)) (kk : W p l e R s m args below meth c H locs cells slots Q (F0 m (pc + 3) ls (v18 :: rest))) : W p l e R s m args below meth c H locs cells slots Q (F0 m pc ls (.ref (ad L) :: rest)) :=
  va_get (own := RX7) (ref := "ScoreDifferencesModel") (C := RX7) (T := TX7) (N := 28) (ci := 7) hx hb (hK.1.use args) inT7 hown hK.2 (hW.rd hV) 0 rfl rfl 18 (by decide) (hK.1.use args _ tw_507) (fun _ h9 => h9) rfl hdg kk
theorem p_X7_X7_oldMember (hx : p.tables.exec = Jvm.exec) (hb : c.code = cc) (hown : s.vm.findClass RX7 = some m.cls) (hin : meth.name = "<init>") (hK : KB D cy s) (hW : HW D z0 ad V H) (hS : va_S (AA z0) H0 H locs) {v0 v1 v2 v3 v4 v5 v6 v7 v8 v9 v10 v11 v12 v13 v14 v15 v16 v17 v18 v19 v20 v21 v22 v23 v24 v25 v26 v27 : Value} {x : Nat} (hV : V L = some (.inr (7, [v0, v1, v2, v3, v4, v5, v6, v7, v8, v9, v10, v11, v12, v13, v14, v15, v16, v17, v18, v19, v20, v21, v22, v23, v24, v25, v26, v27]))) (hdg : decode cc pc = .ok (.putfield 61, 3))
    (kk : ∀ (H1 : Heap) (locs1 : List Loc), HW D z0 ad (va_up V L (some (.inr (7, [v0, v1, v2, v3, v4, v5, v6, v7, v8, v9, v10, v11, v12, v13, v14, v15, v16, v17, .ref x, v19, v20, v21, v22, v23, v24, v25, v26, v27])))) H1 → va_S (AA z0) H0 H1 locs1 → W p l e R s m args below meth c H1 locs1 cells slots Q (F0 m (pc + 3) ls rest)) : W p l e R s m args below meth c H locs cells slots Q (F0 m pc ls (.ref x :: .ref (ad L) :: rest)) := by
  obtain ⟨ws, k, hP, hD, hk, hnew⟩ := hW.wr hV
  exact va_putF (own := RX7) (ref := "ScoreDifferencesModel") (C := RX7) (T := TX7) (N := 28) (ci := 7) (ty := (tyX7 18)) hx hb (hK.1.use args) inT7 tyX7 tyX7_ok nmX7 hown hK.2 hP hD hS k hk rfl 18 (by decide) (hK.1.use args _ tw_507) (fun _ h9 => h9) rfl hin rfl (by decide +kernel) rfl rfl (Nat.le_of_ble_eq_true rfl) hdg (fun H1 locs1 hP1 hD1 hS1 => kk H1 locs1 (hnew _ _ hP1 hD1) hS1)
theorem g_X7_X7_oldNumber (hx : p.tables.exec = Jvm.exec) (hb : c.code = cc) (hown : s.vm.findClass RX7 = some m.cls) (hK : KB D cy s) (hW : HW D z0 ad V H) {v0 v1 v2 v3 v4 v5 v6 v7 v8 v9 v10 v11 v12 v13 v14 v15 v16 v17 v18 v19 v20 v21 v22 v23 v24 v25 v26 v27 : Value} (hV : V L = some (.inr (7, [v0, v1, v2, v3, v4, v5, v6, v7, v8, v9, v10, v11, v12, v13, v14, v15, v16, v17, v18, v19, v20, v21, v22, v23, v24, v25, v26, v27]))) (hdg : decode cc pc = .ok (.getfield 64, 3)) (kk : W p l e R s m args below meth c H locs cells slots Q (F0 m (pc + 3) ls (v19 :: rest))) : W p l e R s m args below meth c H locs cells slots Q (F0 m pc ls (.ref (ad L) :: rest)) :=
  va_get (own := RX7) (ref := "ScoreDifferencesModel") (C := RX7) (T := TX7) (N := 28) (ci := 7) hx hb (hK.1.use args) inT7 hown hK.2 (hW.rd hV) 0 rfl rfl 19 (by decide) (hK.1.use args _ tw_508) (fun _ h9 => h9) rfl hdg kk
theorem p_X7_X7_oldNumber (hx : p.tables.exec = Jvm.exec) (hb : c.code = cc) (hown : s.vm.findClass RX7 = some m.cls) (hin : meth.name = "<init>") (hK : KB D cy s) (hW : HW D z0 ad V H) (hS : va_S (AA z0) H0 H locs) {v0 v1 v2 v3 v4 v5 v6 v7 v8 v9 v10 v11 v12 v13 v14 v15 v16 v17 v18 v19 v20 v21 v22 v23 v24 v25 v26 v27 : Value} {x : Nat} (hV : V L = some (.inr (7, [v0, v1, v2, v3, v4, v5, v6, v7, v8, v9, v10, v11, v12, v13, v14, v15, v16, v17, v18, v19, v20, v21, v22, v23, v24, v25, v26, v27]))) (hdg : decode cc pc = .ok (.putfield 64, 3))
    (kk : ∀ (H1 : Heap) (locs1 : List Loc), HW D z0 ad (va_up V L (some (.inr (7, [v0, v1, v2, v3, v4, v5, v6, v7, v8, v9, v10, v11, v12, v13, v14, v15, v16, v17, v18, .ref x, v20, v21, v22, v23, v24, v25, v26, v27])))) H1 → va_S (AA z0) H0 H1 locs1 → W p l e R s m args below meth c H1 locs1 cells slots Q (F0 m (pc + 3) ls rest)) : W p l e R s m args below meth c H locs cells slots Q (F0 m pc ls (.ref x :: .ref (ad L) :: rest)) := by
  obtain ⟨ws, k, hP, hD, hk, hnew⟩ := hW.wr hV
  exact va_putF (own := RX7) (ref := "ScoreDifferencesModel") (C := RX7) (T := TX7) (N := 28) (ci := 7) (ty := (tyX7 19)) hx hb (hK.1.use args) inT7 tyX7 tyX7_ok nmX7 hown hK.2 hP hD hS k hk rfl 19 (by decide) (hK.1.use args _ tw_508) (fun _ h9 => h9) rfl hin rfl (by decide +kernel) rfl rfl (Nat.le_of_ble_eq_true rfl) hdg (fun H1 locs1 hP1 hD1 hS1 => kk H1 locs1 (hnew _ _ hP1 hD1) hS1)
theorem g_X7_X7_oldKept (hx : p.tables.exec = Jvm.exec) (hb : c.code = cc) (hown : s.vm.findClass RX7 = some m.cls) (hK : KB D cy s) (hW : HW D z0 ad V H) {v0 v1 v2 v3 v4 v5 v6 v7 v8 v9 v10 v11 v12 v13 v14 v15 v16 v17 v18 v19 v20 v21 v22 v23 v24 v25 v26 v27 : Value} (hV : V L = some (.inr (7, [v0, v1, v2, v3, v4, v5, v6, v7, v8, v9, v10, v11, v12, v13, v14, v15, v16, v17, v18, v19, v20, v21, v22, v23, v24, v25, v26, v27]))) (hdg : decode cc pc = .ok (.getfield 67, 3)) (kk : W p l e R s m args below meth c H locs cells slots Q (F0 m (pc + 3) ls (v20 :: rest))) : W p l e R s m args below meth c H locs cells slots Q (F0 m pc ls (.ref (ad L) :: rest)) :=
  va_get (own := RX7) (ref := "ScoreDifferencesModel") (C := RX7) (T := TX7) (N := 28) (ci := 7) hx hb (hK.1.use args) inT7 hown hK.2 (hW.rd hV) 0 rfl rfl 20 (by decide) (hK.1.use args _ tw_509) (fun _ h9 => h9) rfl hdg kk
theorem p_X7_X7_oldKept (hx : p.tables.exec = Jvm.exec) (hb : c.code = cc) (hown : s.vm.findClass RX7 = some m.cls) (hin : meth.name = "<init>") (hK : KB D cy s) (hW : HW D z0 ad V H) (hS : va_S (AA z0) H0 H locs) {v0 v1 v2 v3 v4 v5 v6 v7 v8 v9 v10 v11 v12 v13 v14 v15 v16 v17 v18 v19 v20 v21 v22 v23 v24 v25 v26 v27 : Value} {x : Nat} (hV : V L = some (.inr (7, [v0, v1, v2, v3, v4, v5, v6, v7, v8, v9, v10, v11, v12, v13, v14, v15, v16, v17, v18, v19, v20, v21, v22, v23, v24, v25, v26, v27]))) (hdg : decode cc pc = .ok (.putfield 67, 3))
    (kk : ∀ (H1 : Heap) (locs1 : List Loc), HW D z0 ad (va_up V L (some (.inr (7, [v0, v1, v2, v3, v4, v5, v6, v7, v8, v9, v10, v11, v12, v13, v14, v15, v16, v17, v18, v19, .ref x, v21, v22, v23, v24, v25, v26, v27])))) H1 → va_S (AA z0) H0 H1 locs1 → W p l e R s m args below meth c H1 locs1 cells slots Q (F0 m (pc + 3) ls rest)) : W p l e R s m args below meth c H locs cells slots Q (F0 m pc ls (.ref x :: .ref (ad L) :: rest)) := by
  obtain ⟨ws, k, hP, hD, hk, hnew⟩ := hW.wr hV
  exact va_putF (own := RX7) (ref := "ScoreDifferencesModel") (C := RX7) (T := TX7) (N := 28) (ci := 7) (ty := (tyX7 20)) hx hb (hK.1.use args) inT7 tyX7 tyX7_ok nmX7 hown hK.2 hP hD hS k hk rfl 20 (by decide) (hK.1.use args _ tw_509) (fun _ h9 => h9) rfl hin rfl (by decide +kernel) rfl rfl (Nat.le_of_ble_eq_true rfl) hdg (fun H1 locs1 hP1 hD1 hS1 => kk H1 locs1 (hnew _ _ hP1 hD1) hS1)
theorem g_X7_X7_every (hx : p.tables.exec = Jvm.exec) (hb : c.code = cc) (hown : s.vm.findClass RX7 = some m.cls) (hK : KB D cy s) (hW : HW D z0 ad V H) {v0 v1 v2 v3 v4 v5 v6 v7 v8 v9 v10 v11 v12 v13 v14 v15 v16 v17 v18 v19 v20 v21 v22 v23 v24 v25 v26 v27 : Value} (hV : V L = some (.inr (7, [v0, v1, v2, v3, v4, v5, v6, v7, v8, v9, v10, v11, v12, v13, v14, v15, v16, v17, v18, v19, v20, v21, v22, v23, v24, v25, v26, v27]))) (hdg : decode cc pc = .ok (.getfield 138, 3)) (kk : W p l e R s m args below meth c H locs cells slots Q (F0 m (pc + 3) ls (v21 :: rest))) : W p l e R s m args below meth c H locs cells slots Q (F0 m pc ls (.ref (ad L) :: rest)) :=
  va_get (own := RX7) (ref := "ScoreDifferencesModel") (C := RX7) (T := TX7) (N := 28) (ci := 7) hx hb (hK.1.use args) inT7 hown hK.2 (hW.rd hV) 0 rfl rfl 21 (by decide) (hK.1.use args _ tw_510) (fun _ h9 => h9) rfl hdg kk
theorem p_X7_X7_every (hx : p.tables.exec = Jvm.exec) (hb : c.code = cc) (hown : s.vm.findClass RX7 = some m.cls) (hK : KB D cy s) (hW : HW D z0 ad V H) (hS : va_S (AA z0) H0 H locs) {v0 v1 v2 v3 v4 v5 v6 v7 v8 v9 v10 v11 v12 v13 v14 v15 v16 v17 v18 v19 v20 v21 v22 v23 v24 v25 v26 v27 : Value} {x : Int32} (hV : V L = some (.inr (7, [v0, v1, v2, v3, v4, v5, v6, v7, v8, v9, v10, v11, v12, v13, v14, v15, v16, v17, v18, v19, v20, v21, v22, v23, v24, v25, v26, v27]))) (hdg : decode cc pc = .ok (.putfield 138, 3))
    (kk : ∀ (H1 : Heap) (locs1 : List Loc), HW D z0 ad (va_up V L (some (.inr (7, [v0, v1, v2, v3, v4, v5, v6, v7, v8, v9, v10, v11, v12, v13, v14, v15, v16, v17, v18, v19, v20, .int x, v22, v23, v24, v25, v26, v27])))) H1 → va_S (AA z0) H0 H1 locs1 → W p l e R s m args below meth c H1 locs1 cells slots Q (F0 m (pc + 3) ls rest)) : W p l e R s m args below meth c H locs cells slots Q (F0 m pc ls (.int x :: .ref (ad L) :: rest)) := by
  obtain ⟨ws, k, hP, hD, hk, hnew⟩ := hW.wr hV
  exact va_put (own := RX7) (ref := "ScoreDifferencesModel") (C := RX7) (T := TX7) (N := 28) (ci := 7) (ty := .int) hx hb (hK.1.use args) inT7 tyX7 tyX7_ok nmX7 hown hK.2 hP hD hS k hk rfl 21 (by decide) (hK.1.use args _ tw_510) (fun _ h9 => h9) rfl (by decide +kernel) rfl rfl (Nat.le_of_ble_eq_true rfl) hdg (fun H1 locs1 hP1 hD1 hS1 => kk H1 locs1 (hnew _ _ hP1 hD1) hS1)
theorem g_X7_X7_keeps (hx : p.tables.exec = Jvm.exec) (hb : c.code = cc) (hown : s.vm.findClass RX7 = some m.cls) (hK : KB D cy s) (hW : HW D z0 ad V H) {v0 v1 v2 v3 v4 v5 v6 v7 v8 v9 v10 v11 v12 v13 v14 v15 v16 v17 v18 v19 v20 v21 v22 v23 v24 v25 v26 v27 : Value} (hV : V L = some (.inr (7, [v0, v1, v2, v3, v4, v5, v6, v7, v8, v9, v10, v11, v12, v13, v14, v15, v16, v17, v18, v19, v20, v21, v22, v23, v24, v25, v26, v27]))) (hdg : decode cc pc = .ok (.getfield 155, 3)) (kk : W p l e R s m args below meth c H locs cells slots Q (F0 m (pc + 3) ls (v22 :: rest))) : W p l e R s m args below meth c H locs cells slots Q (F0 m pc ls (.ref (ad L) :: rest)) :=
  va_get (own := RX7) (ref := "ScoreDifferencesModel") (C := RX7) (T := TX7) (N := 28) (ci := 7) hx hb (hK.1.use args) inT7 hown hK.2 (hW.rd hV) 0 rfl rfl 22 (by decide) (hK.1.use args _ tw_511) (fun _ h9 => h9) rfl hdg kk
theorem p_X7_X7_keeps (hx : p.tables.exec = Jvm.exec) (hb : c.code = cc) (hown : s.vm.findClass RX7 = some m.cls) (hK : KB D cy s) (hW : HW D z0 ad V H) (hS : va_S (AA z0) H0 H locs) {v0 v1 v2 v3 v4 v5 v6 v7 v8 v9 v10 v11 v12 v13 v14 v15 v16 v17 v18 v19 v20 v21 v22 v23 v24 v25 v26 v27 : Value} {x : Int32} (hV : V L = some (.inr (7, [v0, v1, v2, v3, v4, v5, v6, v7, v8, v9, v10, v11, v12, v13, v14, v15, v16, v17, v18, v19, v20, v21, v22, v23, v24, v25, v26, v27]))) (hdg : decode cc pc = .ok (.putfield 155, 3))
    (kk : ∀ (H1 : Heap) (locs1 : List Loc), HW D z0 ad (va_up V L (some (.inr (7, [v0, v1, v2, v3, v4, v5, v6, v7, v8, v9, v10, v11, v12, v13, v14, v15, v16, v17, v18, v19, v20, v21, .int x, v23, v24, v25, v26, v27])))) H1 → va_S (AA z0) H0 H1 locs1 → W p l e R s m args below meth c H1 locs1 cells slots Q (F0 m (pc + 3) ls rest)) : W p l e R s m args below meth c H locs cells slots Q (F0 m pc ls (.int x :: .ref (ad L) :: rest)) := by
  obtain ⟨ws, k, hP, hD, hk, hnew⟩ := hW.wr hV
  exact va_put (own := RX7) (ref := "ScoreDifferencesModel") (C := RX7) (T := TX7) (N := 28) (ci := 7) (ty := .int) hx hb (hK.1.use args) inT7 tyX7 tyX7_ok nmX7 hown hK.2 hP hD hS k hk rfl 22 (by decide) (hK.1.use args _ tw_511) (fun _ h9 => h9) rfl (by decide +kernel) rfl rfl (Nat.le_of_ble_eq_true rfl) hdg (fun H1 locs1 hP1 hD1 hS1 => kk H1 locs1 (hnew _ _ hP1 hD1) hS1)
theorem g_X7_X7_keptScore (hx : p.tables.exec = Jvm.exec) (hb : c.code = cc) (hown : s.vm.findClass RX7 = some m.cls) (hK : KB D cy s) (hW : HW D z0 ad V H) {v0 v1 v2 v3 v4 v5 v6 v7 v8 v9 v10 v11 v12 v13 v14 v15 v16 v17 v18 v19 v20 v21 v22 v23 v24 v25 v26 v27 : Value} (hV : V L = some (.inr (7, [v0, v1, v2, v3, v4, v5, v6, v7, v8, v9, v10, v11, v12, v13, v14, v15, v16, v17, v18, v19, v20, v21, v22, v23, v24, v25, v26, v27]))) (hdg : decode cc pc = .ok (.getfield 70, 3)) (kk : W p l e R s m args below meth c H locs cells slots Q (F0 m (pc + 3) ls (v23 :: rest))) : W p l e R s m args below meth c H locs cells slots Q (F0 m pc ls (.ref (ad L) :: rest)) :=
  va_get (own := RX7) (ref := "ScoreDifferencesModel") (C := RX7) (T := TX7) (N := 28) (ci := 7) hx hb (hK.1.use args) inT7 hown hK.2 (hW.rd hV) 0 rfl rfl 23 (by decide) (hK.1.use args _ tw_512) (fun _ h9 => h9) rfl hdg kk
theorem p_X7_X7_keptScore (hx : p.tables.exec = Jvm.exec) (hb : c.code = cc) (hown : s.vm.findClass RX7 = some m.cls) (hin : meth.name = "<init>") (hK : KB D cy s) (hW : HW D z0 ad V H) (hS : va_S (AA z0) H0 H locs) {v0 v1 v2 v3 v4 v5 v6 v7 v8 v9 v10 v11 v12 v13 v14 v15 v16 v17 v18 v19 v20 v21 v22 v23 v24 v25 v26 v27 : Value} {x : Nat} (hV : V L = some (.inr (7, [v0, v1, v2, v3, v4, v5, v6, v7, v8, v9, v10, v11, v12, v13, v14, v15, v16, v17, v18, v19, v20, v21, v22, v23, v24, v25, v26, v27]))) (hdg : decode cc pc = .ok (.putfield 70, 3))
    (kk : ∀ (H1 : Heap) (locs1 : List Loc), HW D z0 ad (va_up V L (some (.inr (7, [v0, v1, v2, v3, v4, v5, v6, v7, v8, v9, v10, v11, v12, v13, v14, v15, v16, v17, v18, v19, v20, v21, v22, .ref x, v24, v25, v26, v27])))) H1 → va_S (AA z0) H0 H1 locs1 → W p l e R s m args below meth c H1 locs1 cells slots Q (F0 m (pc + 3) ls rest)) : W p l e R s m args below meth c H locs cells slots Q (F0 m pc ls (.ref x :: .ref (ad L) :: rest)) := by
  obtain ⟨ws, k, hP, hD, hk, hnew⟩ := hW.wr hV
  exact va_putF (own := RX7) (ref := "ScoreDifferencesModel") (C := RX7) (T := TX7) (N := 28) (ci := 7) (ty := (tyX7 23)) hx hb (hK.1.use args) inT7 tyX7 tyX7_ok nmX7 hown hK.2 hP hD hS k hk rfl 23 (by decide) (hK.1.use args _ tw_512) (fun _ h9 => h9) rfl hin rfl (by decide +kernel) rfl rfl (Nat.le_of_ble_eq_true rfl) hdg (fun H1 locs1 hP1 hD1 hS1 => kk H1 locs1 (hnew _ _ hP1 hD1) hS1)
theorem g_X7_X7_keptMember (hx : p.tables.exec = Jvm.exec) (hb : c.code = cc) (hown : s.vm.findClass RX7 = some m.cls) (hK : KB D cy s) (hW : HW D z0 ad V H) {v0 v1 v2 v3 v4 v5 v6 v7 v8 v9 v10 v11 v12 v13 v14 v15 v16 v17 v18 v19 v20 v21 v22 v23 v24 v25 v26 v27 : Value} (hV : V L = some (.inr (7, [v0, v1, v2, v3, v4, v5, v6, v7, v8, v9, v10, v11, v12, v13, v14, v15, v16, v17, v18, v19, v20, v21, v22, v23, v24, v25, v26, v27]))) (hdg : decode cc pc = .ok (.getfield 73, 3)) (kk : W p l e R s m args below meth c H locs cells slots Q (F0 m (pc + 3) ls (v24 :: rest))) : W p l e R s m args below meth c H locs cells slots Q (F0 m pc ls (.ref (ad L) :: rest)) :=
  va_get (own := RX7) (ref := "ScoreDifferencesModel") (C := RX7) (T := TX7) (N := 28) (ci := 7) hx hb (hK.1.use args) inT7 hown hK.2 (hW.rd hV) 0 rfl rfl 24 (by decide) (hK.1.use args _ tw_513) (fun _ h9 => h9) rfl hdg kk
theorem p_X7_X7_keptMember (hx : p.tables.exec = Jvm.exec) (hb : c.code = cc) (hown : s.vm.findClass RX7 = some m.cls) (hin : meth.name = "<init>") (hK : KB D cy s) (hW : HW D z0 ad V H) (hS : va_S (AA z0) H0 H locs) {v0 v1 v2 v3 v4 v5 v6 v7 v8 v9 v10 v11 v12 v13 v14 v15 v16 v17 v18 v19 v20 v21 v22 v23 v24 v25 v26 v27 : Value} {x : Nat} (hV : V L = some (.inr (7, [v0, v1, v2, v3, v4, v5, v6, v7, v8, v9, v10, v11, v12, v13, v14, v15, v16, v17, v18, v19, v20, v21, v22, v23, v24, v25, v26, v27]))) (hdg : decode cc pc = .ok (.putfield 73, 3))
    (kk : ∀ (H1 : Heap) (locs1 : List Loc), HW D z0 ad (va_up V L (some (.inr (7, [v0, v1, v2, v3, v4, v5, v6, v7, v8, v9, v10, v11, v12, v13, v14, v15, v16, v17, v18, v19, v20, v21, v22, v23, .ref x, v25, v26, v27])))) H1 → va_S (AA z0) H0 H1 locs1 → W p l e R s m args below meth c H1 locs1 cells slots Q (F0 m (pc + 3) ls rest)) : W p l e R s m args below meth c H locs cells slots Q (F0 m pc ls (.ref x :: .ref (ad L) :: rest)) := by
  obtain ⟨ws, k, hP, hD, hk, hnew⟩ := hW.wr hV
  exact va_putF (own := RX7) (ref := "ScoreDifferencesModel") (C := RX7) (T := TX7) (N := 28) (ci := 7) (ty := (tyX7 24)) hx hb (hK.1.use args) inT7 tyX7 tyX7_ok nmX7 hown hK.2 hP hD hS k hk rfl 24 (by decide) (hK.1.use args _ tw_513) (fun _ h9 => h9) rfl hin rfl (by decide +kernel) rfl rfl (Nat.le_of_ble_eq_true rfl) hdg (fun H1 locs1 hP1 hD1 hS1 => kk H1 locs1 (hnew _ _ hP1 hD1) hS1)
theorem g_X7_X7_keptObjects (hx : p.tables.exec = Jvm.exec) (hb : c.code = cc) (hown : s.vm.findClass RX7 = some m.cls) (hK : KB D cy s) (hW : HW D z0 ad V H) {v0 v1 v2 v3 v4 v5 v6 v7 v8 v9 v10 v11 v12 v13 v14 v15 v16 v17 v18 v19 v20 v21 v22 v23 v24 v25 v26 v27 : Value} (hV : V L = some (.inr (7, [v0, v1, v2, v3, v4, v5, v6, v7, v8, v9, v10, v11, v12, v13, v14, v15, v16, v17, v18, v19, v20, v21, v22, v23, v24, v25, v26, v27]))) (hdg : decode cc pc = .ok (.getfield 76, 3)) (kk : W p l e R s m args below meth c H locs cells slots Q (F0 m (pc + 3) ls (v25 :: rest))) : W p l e R s m args below meth c H locs cells slots Q (F0 m pc ls (.ref (ad L) :: rest)) :=
  va_get (own := RX7) (ref := "ScoreDifferencesModel") (C := RX7) (T := TX7) (N := 28) (ci := 7) hx hb (hK.1.use args) inT7 hown hK.2 (hW.rd hV) 0 rfl rfl 25 (by decide) (hK.1.use args _ tw_514) (fun _ h9 => h9) rfl hdg kk
theorem p_X7_X7_keptObjects (hx : p.tables.exec = Jvm.exec) (hb : c.code = cc) (hown : s.vm.findClass RX7 = some m.cls) (hin : meth.name = "<init>") (hK : KB D cy s) (hW : HW D z0 ad V H) (hS : va_S (AA z0) H0 H locs) {v0 v1 v2 v3 v4 v5 v6 v7 v8 v9 v10 v11 v12 v13 v14 v15 v16 v17 v18 v19 v20 v21 v22 v23 v24 v25 v26 v27 : Value} {x : Nat} (hV : V L = some (.inr (7, [v0, v1, v2, v3, v4, v5, v6, v7, v8, v9, v10, v11, v12, v13, v14, v15, v16, v17, v18, v19, v20, v21, v22, v23, v24, v25, v26, v27]))) (hdg : decode cc pc = .ok (.putfield 76, 3))
    (kk : ∀ (H1 : Heap) (locs1 : List Loc), HW D z0 ad (va_up V L (some (.inr (7, [v0, v1, v2, v3, v4, v5, v6, v7, v8, v9, v10, v11, v12, v13, v14, v15, v16, v17, v18, v19, v20, v21, v22, v23, v24, .ref x, v26, v27])))) H1 → va_S (AA z0) H0 H1 locs1 → W p l e R s m args below meth c H1 locs1 cells slots Q (F0 m (pc + 3) ls rest)) : W p l e R s m args below meth c H locs cells slots Q (F0 m pc ls (.ref x :: .ref (ad L) :: rest)) := by
  obtain ⟨ws, k, hP, hD, hk, hnew⟩ := hW.wr hV
  exact va_putF (own := RX7) (ref := "ScoreDifferencesModel") (C := RX7) (T := TX7) (N := 28) (ci := 7) (ty := (tyX7 25)) hx hb (hK.1.use args) inT7 tyX7 tyX7_ok nmX7 hown hK.2 hP hD hS k hk rfl 25 (by decide) (hK.1.use args _ tw_514) (fun _ h9 => h9) rfl hin rfl (by decide +kernel) rfl rfl (Nat.le_of_ble_eq_true rfl) hdg (fun H1 locs1 hP1 hD1 hS1 => kk H1 locs1 (hnew _ _ hP1 hD1) hS1)
theorem g_X7_X7_was (hx : p.tables.exec = Jvm.exec) (hb : c.code = cc) (hown : s.vm.findClass RX7 = some m.cls) (hK : KB D cy s) (hW : HW D z0 ad V H) {v0 v1 v2 v3 v4 v5 v6 v7 v8 v9 v10 v11 v12 v13 v14 v15 v16 v17 v18 v19 v20 v21 v22 v23 v24 v25 v26 v27 : Value} (hV : V L = some (.inr (7, [v0, v1, v2, v3, v4, v5, v6, v7, v8, v9, v10, v11, v12, v13, v14, v15, v16, v17, v18, v19, v20, v21, v22, v23, v24, v25, v26, v27]))) (hdg : decode cc pc = .ok (.getfield 79, 3)) (kk : W p l e R s m args below meth c H locs cells slots Q (F0 m (pc + 3) ls (v26 :: rest))) : W p l e R s m args below meth c H locs cells slots Q (F0 m pc ls (.ref (ad L) :: rest)) :=
  va_get (own := RX7) (ref := "ScoreDifferencesModel") (C := RX7) (T := TX7) (N := 28) (ci := 7) hx hb (hK.1.use args) inT7 hown hK.2 (hW.rd hV) 0 rfl rfl 26 (by decide) (hK.1.use args _ tw_515) (fun _ h9 => h9) rfl hdg kk
theorem p_X7_X7_was (hx : p.tables.exec = Jvm.exec) (hb : c.code = cc) (hown : s.vm.findClass RX7 = some m.cls) (hin : meth.name = "<init>") (hK : KB D cy s) (hW : HW D z0 ad V H) (hS : va_S (AA z0) H0 H locs) {v0 v1 v2 v3 v4 v5 v6 v7 v8 v9 v10 v11 v12 v13 v14 v15 v16 v17 v18 v19 v20 v21 v22 v23 v24 v25 v26 v27 : Value} {x : Nat} (hV : V L = some (.inr (7, [v0, v1, v2, v3, v4, v5, v6, v7, v8, v9, v10, v11, v12, v13, v14, v15, v16, v17, v18, v19, v20, v21, v22, v23, v24, v25, v26, v27]))) (hdg : decode cc pc = .ok (.putfield 79, 3))
    (kk : ∀ (H1 : Heap) (locs1 : List Loc), HW D z0 ad (va_up V L (some (.inr (7, [v0, v1, v2, v3, v4, v5, v6, v7, v8, v9, v10, v11, v12, v13, v14, v15, v16, v17, v18, v19, v20, v21, v22, v23, v24, v25, .ref x, v27])))) H1 → va_S (AA z0) H0 H1 locs1 → W p l e R s m args below meth c H1 locs1 cells slots Q (F0 m (pc + 3) ls rest)) : W p l e R s m args below meth c H locs cells slots Q (F0 m pc ls (.ref x :: .ref (ad L) :: rest)) := by
  obtain ⟨ws, k, hP, hD, hk, hnew⟩ := hW.wr hV
  exact va_putF (own := RX7) (ref := "ScoreDifferencesModel") (C := RX7) (T := TX7) (N := 28) (ci := 7) (ty := (tyX7 26)) hx hb (hK.1.use args) inT7 tyX7 tyX7_ok nmX7 hown hK.2 hP hD hS k hk rfl 26 (by decide) (hK.1.use args _ tw_515) (fun _ h9 => h9) rfl hin rfl (by decide +kernel) rfl rfl (Nat.le_of_ble_eq_true rfl) hdg (fun H1 locs1 hP1 hD1 hS1 => kk H1 locs1 (hnew _ _ hP1 hD1) hS1)
theorem g_X7_X7_worthWas (hx : p.tables.exec = Jvm.exec) (hb : c.code = cc) (hown : s.vm.findClass RX7 = some m.cls) (hK : KB D cy s) (hW : HW D z0 ad V H) {v0 v1 v2 v3 v4 v5 v6 v7 v8 v9 v10 v11 v12 v13 v14 v15 v16 v17 v18 v19 v20 v21 v22 v23 v24 v25 v26 v27 : Value} (hV : V L = some (.inr (7, [v0, v1, v2, v3, v4, v5, v6, v7, v8, v9, v10, v11, v12, v13, v14, v15, v16, v17, v18, v19, v20, v21, v22, v23, v24, v25, v26, v27]))) (hdg : decode cc pc = .ok (.getfield 82, 3)) (kk : W p l e R s m args below meth c H locs cells slots Q (F0 m (pc + 3) ls (v27 :: rest))) : W p l e R s m args below meth c H locs cells slots Q (F0 m pc ls (.ref (ad L) :: rest)) :=
  va_get (own := RX7) (ref := "ScoreDifferencesModel") (C := RX7) (T := TX7) (N := 28) (ci := 7) hx hb (hK.1.use args) inT7 hown hK.2 (hW.rd hV) 0 rfl rfl 27 (by decide) (hK.1.use args _ tw_516) (fun _ h9 => h9) rfl hdg kk
theorem p_X7_X7_worthWas (hx : p.tables.exec = Jvm.exec) (hb : c.code = cc) (hown : s.vm.findClass RX7 = some m.cls) (hin : meth.name = "<init>") (hK : KB D cy s) (hW : HW D z0 ad V H) (hS : va_S (AA z0) H0 H locs) {v0 v1 v2 v3 v4 v5 v6 v7 v8 v9 v10 v11 v12 v13 v14 v15 v16 v17 v18 v19 v20 v21 v22 v23 v24 v25 v26 v27 : Value} {x : Nat} (hV : V L = some (.inr (7, [v0, v1, v2, v3, v4, v5, v6, v7, v8, v9, v10, v11, v12, v13, v14, v15, v16, v17, v18, v19, v20, v21, v22, v23, v24, v25, v26, v27]))) (hdg : decode cc pc = .ok (.putfield 82, 3))
    (kk : ∀ (H1 : Heap) (locs1 : List Loc), HW D z0 ad (va_up V L (some (.inr (7, [v0, v1, v2, v3, v4, v5, v6, v7, v8, v9, v10, v11, v12, v13, v14, v15, v16, v17, v18, v19, v20, v21, v22, v23, v24, v25, v26, .ref x])))) H1 → va_S (AA z0) H0 H1 locs1 → W p l e R s m args below meth c H1 locs1 cells slots Q (F0 m (pc + 3) ls rest)) : W p l e R s m args below meth c H locs cells slots Q (F0 m pc ls (.ref x :: .ref (ad L) :: rest)) := by
  obtain ⟨ws, k, hP, hD, hk, hnew⟩ := hW.wr hV
  exact va_putF (own := RX7) (ref := "ScoreDifferencesModel") (C := RX7) (T := TX7) (N := 28) (ci := 7) (ty := (tyX7 27)) hx hb (hK.1.use args) inT7 tyX7 tyX7_ok nmX7 hown hK.2 hP hD hS k hk rfl 27 (by decide) (hK.1.use args _ tw_516) (fun _ h9 => h9) rfl hin rfl (by decide +kernel) rfl rfl (Nat.le_of_ble_eq_true rfl) hdg (fun H1 locs1 hP1 hD1 hS1 => kk H1 locs1 (hnew _ _ hP1 hD1) hS1)
theorem kB {own : String} {index n maxL mc ms : Nat} {y : MethodName} {bytes : ByteArray} {ret : Option FieldType} {rm : Room} (h : TB s) (hcode : Cond.code y bytes maxL ret ∈ lt) (hini : Cond.initialized y.cls ∈ lt) (hlink : Cond.methodLink own index y ∈ lt) (hd : y.cls ≠ "java/lang/invoke/MethodHandle" ∧ y.cls ≠ "java/lang/invoke/VarHandle" ∧ (parseMethodDescriptor y.desc).map (fun d => d.parameters.length) = some n) (hrc : rm.cells = mc) (hrs : rm.slots = ms) (hR : rm.frames + 1 ≤ R.frames ∧ 8 + (maxL + 11) + rm.locals ≤ R.locals) : CallB R s args own index y bytes maxL ret [Cond.code y bytes maxL ret] rm mc ms n := by
  refine ⟨hrc, hrs, hR.1, hR.2, fun w hw a' U hW => ?_, List.mem_cons_self, h.use args _ hcode, h.use args _ hini, ⟨hd.1, hd.2.1⟩, fun sig h => ?_, h.use args _ hlink⟩
  · rw [List.mem_singleton] at hw
    subst hw
    exact (h.warm hW).use a' _ hcode
  · have h2 := hd.2.2
    rw [h] at h2
    exact (Option.some.inj h2).symm
theorem kN {own host : String} {index n maxL mc ms : Nat} {y : MethodName} {bytes : ByteArray} {ret : Option FieldType} {rm : Room} (h : TB s) (hcode : Cond.code y bytes maxL ret ∈ lt) (hini : Cond.initialized y.cls ∈ lt) (hlink : Cond.methodLinkNest own index y host ∈ lt) (hd : y.cls ≠ "java/lang/invoke/MethodHandle" ∧ y.cls ≠ "java/lang/invoke/VarHandle" ∧ (parseMethodDescriptor y.desc).map (fun d => d.parameters.length) = some n) (hrc : rm.cells = mc) (hrs : rm.slots = ms) (hR : rm.frames + 1 ≤ R.frames ∧ 8 + (maxL + 11) + rm.locals ≤ R.locals) : va_CN R s args own index y host bytes maxL ret [Cond.code y bytes maxL ret] rm mc ms n := by
  refine ⟨⟨hrc, hrs, hR.1, hR.2, fun w hw a' U hW => ?_, List.mem_cons_self⟩, h.use args _ hcode, h.use args _ hini, ⟨hd.1, hd.2.1⟩, fun sig h => ?_, h.use args _ hlink⟩
  · rw [List.mem_singleton] at hw
    subst hw
    exact (h.warm hW).use a' _ hcode
  · have h2 := hd.2.2
    rw [h] at h2
    exact (Option.some.inj h2).symm
theorem k_L_X6_init {rm : Room} {mc ms : Nat} (h : TB s) (hrc : rm.cells = mc) (hrs : rm.slots = ms) (hR : rm.frames + 1 ≤ R.frames ∧ 8 + (2 + 11) + rm.locals ≤ R.locals) : CallB R s args RL 9 yX6_init cX6_init 2 none [Cond.code yX6_init cX6_init 2 none] rm mc ms 0 ∧ yX6_init.name = "<init>" ∧ (Cond.instanceMethod yX6_init).before args s = true := ⟨(kB h tw_15 tw_1 tw_13 (by decide +kernel) hrc hrs hR), rfl, h.use args _ tw_14⟩
theorem k_X6_X3_init {rm : Room} {mc ms : Nat} (h : TB s) (hrc : rm.cells = mc) (hrs : rm.slots = ms) (hR : rm.frames + 1 ≤ R.frames ∧ 8 + (1 + 11) + rm.locals ≤ R.locals) : va_CN R s args RX6 9 yX3_init RX6 cX3_init 1 none [Cond.code yX3_init cX3_init 1 none] rm mc ms 0 ∧ yX3_init.name = "<init>" ∧ (Cond.instanceMethod yX3_init).before args s = true := ⟨(kN h tw_23 tw_2 tw_21 (by decide +kernel) hrc hrs hR), rfl, h.use args _ tw_22⟩
theorem k_X6_X1_init {rm : Room} {mc ms : Nat} (h : TB s) (hrc : rm.cells = mc) (hrs : rm.slots = ms) (hR : rm.frames + 1 ≤ R.frames ∧ 8 + (2 + 11) + rm.locals ≤ R.locals) : CallB R s args RX6 22 yX1_init cX1_init 2 none [Cond.code yX1_init cX1_init 2 none] rm mc ms 1 ∧ yX1_init.name = "<init>" ∧ (Cond.instanceMethod yX1_init).before args s = true := ⟨(kB h tw_42 tw_3 tw_40 (by decide +kernel) hrc hrs hR), rfl, h.use args _ tw_41⟩
theorem k_X1_X5_init {rm : Room} {mc ms : Nat} (h : TB s) (hrc : rm.cells = mc) (hrs : rm.slots = ms) (hR : rm.frames + 1 ≤ R.frames ∧ 8 + (1 + 11) + rm.locals ≤ R.locals) : va_CN R s args RX1 11 yX5_init RX6 cX5_init 1 none [Cond.code yX5_init cX5_init 1 none] rm mc ms 0 ∧ yX5_init.name = "<init>" ∧ (Cond.instanceMethod yX5_init).before args s = true := ⟨(kN h tw_48 tw_4 tw_46 (by decide +kernel) hrc hrs hR), rfl, h.use args _ tw_47⟩
theorem k_X1_X0_init {rm : Room} {mc ms : Nat} (h : TB s) (hrc : rm.cells = mc) (hrs : rm.slots = ms) (hR : rm.frames + 1 ≤ R.frames ∧ 8 + (1 + 11) + rm.locals ≤ R.locals) : va_CN R s args RX1 31 yX0_init RX6 cX0_init 1 none [Cond.code yX0_init cX0_init 1 none] rm mc ms 0 ∧ yX0_init.name = "<init>" ∧ (Cond.instanceMethod yX0_init).before args s = true := ⟨(kN h tw_69 tw_5 tw_67 (by decide +kernel) hrc hrs hR), rfl, h.use args _ tw_68⟩
theorem k_L_X6_object {rm : Room} {mc ms : Nat} (h : TB s) (hrc : rm.cells = mc) (hrs : rm.slots = ms) (hR : rm.frames + 1 ≤ R.frames ∧ 8 + (1 + 11) + rm.locals ≤ R.locals) : CallB R s args RL 13 yX6_object cX6_object 1 (some .int) [Cond.code yX6_object cX6_object 1 (some .int)] rm mc ms 0 ∧ (Cond.instanceMethod yX6_object).before args s = true ∧ (Cond.selects RX6 yX6_object yX6_object).before args s = true := ⟨(kB h tw_166 tw_1 tw_163 (by decide +kernel) hrc hrs hR), h.use args _ tw_164, h.use args _ tw_165⟩
theorem k_X6_X6_isSettled {rm : Room} {mc ms : Nat} (h : TB s) (hrc : rm.cells = mc) (hrs : rm.slots = ms) (hR : rm.frames + 1 ≤ R.frames ∧ 8 + (1 + 11) + rm.locals ≤ R.locals) : CallB R s args RX6 35 yX6_isSettled cX6_isSettled 1 (some .boolean) [Cond.code yX6_isSettled cX6_isSettled 1 (some .boolean)] rm mc ms 0 ∧ (Cond.instanceMethod yX6_isSettled).before args s = true ∧ (Cond.selects RX6 yX6_isSettled yX6_isSettled).before args s = true := ⟨(kB h tw_170 tw_1 tw_167 (by decide +kernel) hrc hrs hR), h.use args _ tw_169, h.use args _ tp_0⟩
theorem k_X6_X1_addObject {rm : Room} {mc ms : Nat} (h : TB s) (hrc : rm.cells = mc) (hrs : rm.slots = ms) (hR : rm.frames + 1 ≤ R.frames ∧ 8 + (2 + 11) + rm.locals ≤ R.locals) : CallB R s args RX6 48 yX1_addObject cX1_addObject 2 (some .int) [Cond.code yX1_addObject cX1_addObject 2 (some .int)] rm mc ms 0 ∧ (Cond.instanceMethod yX1_addObject).before args s = true ∧ (Cond.selects RX1 yX1_addObject yX1_addObject).before args s = true := ⟨(kB h tw_174 tw_3 tw_171 (by decide +kernel) hrc hrs hR), h.use args _ tw_172, h.use args _ tw_173⟩
theorem k_X1_X5_becomeLike {rm : Room} {mc ms : Nat} (h : TB s) (hrc : rm.cells = mc) (hrs : rm.slots = ms) (hR : rm.frames + 1 ≤ R.frames ∧ 8 + (3 + 11) + rm.locals ≤ R.locals) : CallB R s args RX1 44 yX5_becomeLike cX5_becomeLike 3 none [Cond.code yX5_becomeLike cX5_becomeLike 3 none] rm mc ms 1 ∧ (Cond.instanceMethod yX5_becomeLike).before args s = true ∧ (Cond.selects RX5 yX5_becomeLike yX5_becomeLike).before args s = true := ⟨(kB h tw_178 tw_4 tw_175 (by decide +kernel) hrc hrs hR), h.use args _ tw_176, h.use args _ tw_177⟩
theorem k_X5_arraycopy : Cond.methodLink RX5 29 arraycopyName ∈ lt := tw_179
theorem k_X1_X5_addObject {rm : Room} {mc ms : Nat} (h : TB s) (hrc : rm.cells = mc) (hrs : rm.slots = ms) (hR : rm.frames + 1 ≤ R.frames ∧ 8 + (1 + 11) + rm.locals ≤ R.locals) : CallB R s args RX1 53 yX5_addObject cX5_addObject 1 none [Cond.code yX5_addObject cX5_addObject 1 none] rm mc ms 0 ∧ (Cond.instanceMethod yX5_addObject).before args s = true ∧ (Cond.selects RX5 yX5_addObject yX5_addObject).before args s = true := ⟨(kB h tw_185 tw_4 tw_182 (by decide +kernel) hrc hrs hR), h.use args _ tw_183, h.use args _ tw_184⟩
theorem k_X1_X1_gain {rm : Room} {mc ms : Nat} (h : TB s) (hrc : rm.cells = mc) (hrs : rm.slots = ms) (hR : rm.frames + 1 ≤ R.frames ∧ 8 + (2 + 11) + rm.locals ≤ R.locals) : CallB R s args RX1 56 yX1_gain cX1_gain 2 (some .long) [Cond.code yX1_gain cX1_gain 2 (some .long)] rm mc ms 1 ∧ (Cond.instanceMethod yX1_gain).before args s = true ∧ (Cond.selects RX1 yX1_gain yX1_gain).before args s = true := ⟨(kB h tw_189 tw_3 tw_186 (by decide +kernel) hrc hrs hR), h.use args _ tw_188, h.use args _ tp_1⟩
theorem k_X1_X2_fromNothing {rm : Room} {mc ms : Nat} (h : TB s) (hrc : rm.cells = mc) (hrs : rm.slots = ms) (hR : rm.frames + 1 ≤ R.frames ∧ 8 + (4 + 11) + rm.locals ≤ R.locals) : CallB R s args RX1 67 yX2_fromNothing cX2_fromNothing 4 (some .long) [Cond.code yX2_fromNothing cX2_fromNothing 4 (some .long)] rm mc ms 1 ∧ (Cond.instanceMethod yX2_fromNothing).before args s = true ∧ (Cond.selects RX2 yX2_fromNothing yX2_fromNothing).before args s = true := ⟨(kB h tw_193 tw_9 tw_190 (by decide +kernel) hrc hrs hR), h.use args _ tw_191, h.use args _ tw_192⟩
theorem k_X2_X2_eachAbove {rm : Room} {mc ms : Nat} (h : TB s) (hrc : rm.cells = mc) (hrs : rm.slots = ms) (hR : rm.frames + 1 ≤ R.frames ∧ 8 + (6 + 11) + rm.locals ≤ R.locals) : CallB R s args RX2 36 yX2_eachAbove cX2_eachAbove 6 (some .long) [Cond.code yX2_eachAbove cX2_eachAbove 6 (some .long)] rm mc ms 2 ∧ (Cond.instanceMethod yX2_eachAbove).before args s = true ∧ (Cond.selects RX2 yX2_eachAbove yX2_eachAbove).before args s = true := ⟨(kB h tw_198 tw_9 tw_194 (by decide +kernel) hrc hrs hR), h.use args _ tw_196, h.use args _ tp_2⟩
theorem k_X2_mmax (hx : p.tables.exec = Jvm.exec) (hb : c.code = cc) (hml : c.maxLocals = ls.size) (hown : s.vm.findClass RX2 = some m.cls) (hK : KB D cy s) (hframes : 1 ≤ R.frames) (hlocals : (rest.map fun v => v.category).sum + 13 ≤ R.locals) (hc : cells ≤ R.cells) (hs : slots ≤ R.slots) {x y : Int32} (hdg : decode cc pc = .ok (.invokestatic 63, 3)) (kk : W p l e R s m args below meth c H locs cells slots Q (F0 m (pc + 3) ls (.int (if x < y then y else x) :: rest))) : W p l e R s m args below meth c H locs cells slots Q (F0 m pc ls (.int y :: .int x :: rest)) :=
  va_mmax hx hb hml hown (hK.1.use args _ tw_199) (hK.1.use args _ tw_200) (hK.1.use args _ tw_8) (hK.1.use args _ tw_201) hframes hlocals hc hs hdg kk
theorem k_X2_X2_sum {rm : Room} {mc ms : Nat} (h : TB s) (hrc : rm.cells = mc) (hrs : rm.slots = ms) (hR : rm.frames + 1 ≤ R.frames ∧ 8 + (5 + 11) + rm.locals ≤ R.locals) : CallB R s args RX2 40 yX2_sum cX2_sum 5 (some .long) [Cond.code yX2_sum cX2_sum 5 (some .long)] rm mc ms 2 ∧ (Cond.static yX2_sum).before args s = true := ⟨(kB h tw_204 tw_9 tw_202 (by decide +kernel) hrc hrs hR), h.use args _ tw_203⟩
theorem k_X2_mmax_long (hx : p.tables.exec = Jvm.exec) (hb : c.code = cc) (hml : c.maxLocals = ls.size) (hown : s.vm.findClass RX2 = some m.cls) (hK : KB D cy s) (hframes : 1 ≤ R.frames) (hlocals : (rest.map fun v => v.category).sum + 15 ≤ R.locals) (hc : cells ≤ R.cells) (hs : slots ≤ R.slots) {x y : Int64} (hdg : decode cc pc = .ok (.invokestatic 43, 3)) (kk : W p l e R s m args below meth c H locs cells slots Q (F0 m (pc + 3) ls (.long (if y < x then x else y) :: rest))) : W p l e R s m args below meth c H locs cells slots Q (F0 m pc ls (.long y :: .long x :: rest)) :=
  va_mmax_long hx hb hml hown (hK.1.use args _ tw_205) (hK.1.use args _ tw_206) (hK.1.use args _ tw_8) (hK.1.use args _ tw_207) hframes hlocals hc hs hdg kk
theorem k_X2_mabs_long (hx : p.tables.exec = Jvm.exec) (hb : c.code = cc) (hml : c.maxLocals = ls.size) (hown : s.vm.findClass RX2 = some m.cls) (hK : KB D cy s) (hframes : 1 ≤ R.frames) (hlocals : (rest.map fun v => v.category).sum + 13 ≤ R.locals) (hc : cells ≤ R.cells) (hs : slots ≤ R.slots) {x : Int64} (hdg : decode cc pc = .ok (.invokestatic 49, 3)) (kk : W p l e R s m args below meth c H locs cells slots Q (F0 m (pc + 3) ls (.long (if 0 < x then x else -x) :: rest))) : W p l e R s m args below meth c H locs cells slots Q (F0 m pc ls (.long x :: rest)) :=
  va_mabs_long hx hb hml hown (hK.1.use args _ tw_208) (hK.1.use args _ tw_209) (hK.1.use args _ tw_8) (hK.1.use args _ tw_210) hframes hlocals hc hs hdg kk
theorem k_X2_X2_equalPairs {rm : Room} {mc ms : Nat} (h : TB s) (hrc : rm.cells = mc) (hrs : rm.slots = ms) (hR : rm.frames + 1 ≤ R.frames ∧ 8 + (5 + 11) + rm.locals ≤ R.locals) : CallB R s args RX2 53 yX2_equalPairs cX2_equalPairs 5 (some .long) [Cond.code yX2_equalPairs cX2_equalPairs 5 (some .long)] rm mc ms 2 ∧ (Cond.static yX2_equalPairs).before args s = true := ⟨(kB h tw_213 tw_9 tw_211 (by decide +kernel) hrc hrs hR), h.use args _ tw_212⟩
theorem k_X2_X2_countOf {rm : Room} {mc ms : Nat} (h : TB s) (hrc : rm.cells = mc) (hrs : rm.slots = ms) (hR : rm.frames + 1 ≤ R.frames ∧ 8 + (6 + 11) + rm.locals ≤ R.locals) : CallB R s args RX2 66 yX2_countOf cX2_countOf 6 (some .int) [Cond.code yX2_countOf cX2_countOf 6 (some .int)] rm mc ms 4 ∧ (Cond.static yX2_countOf).before args s = true := ⟨(kB h tw_216 tw_9 tw_214 (by decide +kernel) hrc hrs hR), h.use args _ tw_215⟩
theorem k_X2_X2_crowds {rm : Room} {mc ms : Nat} (h : TB s) (hrc : rm.cells = mc) (hrs : rm.slots = ms) (hR : rm.frames + 1 ≤ R.frames ∧ 8 + (8 + 11) + rm.locals ≤ R.locals) : CallB R s args RX2 56 yX2_crowds cX2_crowds 8 (some .long) [Cond.code yX2_crowds cX2_crowds 8 (some .long)] rm mc ms 2 ∧ (Cond.instanceMethod yX2_crowds).before args s = true ∧ (Cond.selects RX2 yX2_crowds yX2_crowds).before args s = true := ⟨(kB h tw_220 tw_9 tw_217 (by decide +kernel) hrc hrs hR), h.use args _ tw_219, h.use args _ tp_3⟩
theorem k_X2_X2_lessThanBefore {rm : Room} {mc ms : Nat} (h : TB s) (hrc : rm.cells = mc) (hrs : rm.slots = ms) (hR : rm.frames + 1 ≤ R.frames ∧ 8 + (6 + 11) + rm.locals ≤ R.locals) : CallB R s args RX2 59 yX2_lessThanBefore cX2_lessThanBefore 6 (some .long) [Cond.code yX2_lessThanBefore cX2_lessThanBefore 6 (some .long)] rm mc ms 2 ∧ (Cond.static yX2_lessThanBefore).before args s = true := ⟨(kB h tw_223 tw_9 tw_221 (by decide +kernel) hrc hrs hR), h.use args _ tw_222⟩
theorem k_X2_X5_has {rm : Room} {mc ms : Nat} (h : TB s) (hrc : rm.cells = mc) (hrs : rm.slots = ms) (hR : rm.frames + 1 ≤ R.frames ∧ 8 + (2 + 11) + rm.locals ≤ R.locals) : CallB R s args RX2 70 yX5_has cX5_has 2 (some .boolean) [Cond.code yX5_has cX5_has 2 (some .boolean)] rm mc ms 1 ∧ (Cond.instanceMethod yX5_has).before args s = true ∧ (Cond.selects RX5 yX5_has yX5_has).before args s = true := ⟨(kB h tw_227 tw_4 tw_224 (by decide +kernel) hrc hrs hR), h.use args _ tw_225, h.use args _ tw_226⟩
theorem k_X2_X6_oneIf {rm : Room} {mc ms : Nat} (h : TB s) (hrc : rm.cells = mc) (hrs : rm.slots = ms) (hR : rm.frames + 1 ≤ R.frames ∧ 8 + (1 + 11) + rm.locals ≤ R.locals) : va_CN R s args RX2 74 yX6_oneIf RX6 cX6_oneIf 1 (some .int) [Cond.code yX6_oneIf cX6_oneIf 1 (some .int)] rm mc ms 1 ∧ (Cond.static yX6_oneIf).before args s = true ∧ True := ⟨(kN h tw_230 tw_1 tw_228 (by decide +kernel) hrc hrs hR), h.use args _ tw_229, trivial⟩
theorem k_L_X6_rule {rm : Room} {mc ms : Nat} (h : TB s) (hrc : rm.cells = mc) (hrs : rm.slots = ms) (hR : rm.frames + 1 ≤ R.frames ∧ 8 + (7 + 11) + rm.locals ≤ R.locals) : CallB R s args RL 18 yX6_rule cX6_rule 7 (some .int) [Cond.code yX6_rule cX6_rule 7 (some .int)] rm mc ms 5 ∧ (Cond.instanceMethod yX6_rule).before args s = true ∧ (Cond.selects RX6 yX6_rule yX6_rule).before args s = true := ⟨(kB h tw_234 tw_1 tw_231 (by decide +kernel) hrc hrs hR), h.use args _ tw_232, h.use args _ tw_233⟩
theorem k_X6_X6_isRule {rm : Room} {mc ms : Nat} (h : TB s) (hrc : rm.cells = mc) (hrs : rm.slots = ms) (hR : rm.frames + 1 ≤ R.frames ∧ 8 + (5 + 11) + rm.locals ≤ R.locals) : CallB R s args RX6 52 yX6_isRule cX6_isRule 5 (some .boolean) [Cond.code yX6_isRule cX6_isRule 5 (some .boolean)] rm mc ms 5 ∧ (Cond.static yX6_isRule).before args s = true := ⟨(kB h tw_237 tw_1 tw_235 (by decide +kernel) hrc hrs hR), h.use args _ tw_236⟩
theorem k_X6_X6_within {rm : Room} {mc ms : Nat} (h : TB s) (hrc : rm.cells = mc) (hrs : rm.slots = ms) (hR : rm.frames + 1 ≤ R.frames ∧ 8 + (3 + 11) + rm.locals ≤ R.locals) : CallB R s args RX6 145 yX6_within cX6_within 3 (some .boolean) [Cond.code yX6_within cX6_within 3 (some .boolean)] rm mc ms 3 ∧ (Cond.static yX6_within).before args s = true := ⟨(kB h tw_240 tw_1 tw_238 (by decide +kernel) hrc hrs hR), h.use args _ tw_239⟩
theorem k_X6_X6_isLevel {rm : Room} {mc ms : Nat} (h : TB s) (hrc : rm.cells = mc) (hrs : rm.slots = ms) (hR : rm.frames + 1 ≤ R.frames ∧ 8 + (1 + 11) + rm.locals ≤ R.locals) : CallB R s args RX6 103 yX6_isLevel cX6_isLevel 1 (some .boolean) [Cond.code yX6_isLevel cX6_isLevel 1 (some .boolean)] rm mc ms 1 ∧ (Cond.static yX6_isLevel).before args s = true := ⟨(kB h tw_245 tw_1 tw_243 (by decide +kernel) hrc hrs hR), h.use args _ tw_244⟩
theorem k_X6_X2_init {rm : Room} {mc ms : Nat} (h : TB s) (hrc : rm.cells = mc) (hrs : rm.slots = ms) (hR : rm.frames + 1 ≤ R.frames ∧ 8 + (6 + 11) + rm.locals ≤ R.locals) : CallB R s args RX6 61 yX2_init cX2_init 6 none [Cond.code yX2_init cX2_init 6 none] rm mc ms 5 ∧ yX2_init.name = "<init>" ∧ (Cond.instanceMethod yX2_init).before args s = true := ⟨(kB h tw_249 tw_9 tw_247 (by decide +kernel) hrc hrs hR), rfl, h.use args _ tw_248⟩
theorem k_X6_X3_add {rm : Room} {mc ms : Nat} (h : TB s) (hrc : rm.cells = mc) (hrs : rm.slots = ms) (hR : rm.frames + 1 ≤ R.frames ∧ 8 + (2 + 11) + rm.locals ≤ R.locals) : CallB R s args RX6 64 yX3_add cX3_add 2 (some .int) [Cond.code yX3_add cX3_add 2 (some .int)] rm mc ms 1 ∧ (Cond.instanceMethod yX3_add).before args s = true ∧ (Cond.selects RX3 yX3_add yX3_add).before args s = true := ⟨(kB h tw_271 tw_2 tw_268 (by decide +kernel) hrc hrs hR), h.use args _ tw_269, h.use args _ tw_270⟩
theorem k_X6_X1_fromNothing {rm : Room} {mc ms : Nat} (h : TB s) (hrc : rm.cells = mc) (hrs : rm.slots = ms) (hR : rm.frames + 1 ≤ R.frames ∧ 8 + (2 + 11) + rm.locals ≤ R.locals) : CallB R s args RX6 72 yX1_fromNothing cX1_fromNothing 2 (some .long) [Cond.code yX1_fromNothing cX1_fromNothing 2 (some .long)] rm mc ms 1 ∧ (Cond.instanceMethod yX1_fromNothing).before args s = true ∧ (Cond.selects RX1 yX1_fromNothing yX1_fromNothing).before args s = true := ⟨(kB h tw_275 tw_3 tw_272 (by decide +kernel) hrc hrs hR), h.use args _ tw_273, h.use args _ tw_274⟩
theorem k_L_X6_forget {rm : Room} {mc ms : Nat} (h : TB s) (hrc : rm.cells = mc) (hrs : rm.slots = ms) (hR : rm.frames + 1 ≤ R.frames ∧ 8 + (6 + 11) + rm.locals ≤ R.locals) : CallB R s args RL 23 yX6_forget cX6_forget 6 (some .int) [Cond.code yX6_forget cX6_forget 6 (some .int)] rm mc ms 3 ∧ (Cond.instanceMethod yX6_forget).before args s = true ∧ (Cond.selects RX6 yX6_forget yX6_forget).before args s = true := ⟨(kB h tw_279 tw_1 tw_276 (by decide +kernel) hrc hrs hR), h.use args _ tw_277, h.use args _ tw_278⟩
theorem k_X6_X6_planAt {rm : Room} {mc ms : Nat} (h : TB s) (hrc : rm.cells = mc) (hrs : rm.slots = ms) (hR : rm.frames + 1 ≤ R.frames ∧ 8 + (2 + 11) + rm.locals ≤ R.locals) : CallB R s args RX6 76 yX6_planAt cX6_planAt 2 (some (.object "ScoreDifferences$Plan")) [Cond.code yX6_planAt cX6_planAt 2 (some (.object "ScoreDifferences$Plan"))] rm mc ms 1 ∧ (Cond.instanceMethod yX6_planAt).before args s = true ∧ (Cond.selects RX6 yX6_planAt yX6_planAt).before args s = true := ⟨(kB h tw_283 tw_1 tw_280 (by decide +kernel) hrc hrs hR), h.use args _ tw_282, h.use args _ tp_4⟩
theorem k_X6_X3_has {rm : Room} {mc ms : Nat} (h : TB s) (hrc : rm.cells = mc) (hrs : rm.slots = ms) (hR : rm.frames + 1 ≤ R.frames ∧ 8 + (2 + 11) + rm.locals ≤ R.locals) : CallB R s args RX6 80 yX3_has cX3_has 2 (some .boolean) [Cond.code yX3_has cX3_has 2 (some .boolean)] rm mc ms 1 ∧ (Cond.instanceMethod yX3_has).before args s = true ∧ (Cond.selects RX3 yX3_has yX3_has).before args s = true := ⟨(kB h tw_287 tw_2 tw_284 (by decide +kernel) hrc hrs hR), h.use args _ tw_285, h.use args _ tw_286⟩
theorem k_X6_X6_oneIf {rm : Room} {mc ms : Nat} (h : TB s) (hrc : rm.cells = mc) (hrs : rm.slots = ms) (hR : rm.frames + 1 ≤ R.frames ∧ 8 + (1 + 11) + rm.locals ≤ R.locals) : CallB R s args RX6 88 yX6_oneIf cX6_oneIf 1 (some .int) [Cond.code yX6_oneIf cX6_oneIf 1 (some .int)] rm mc ms 1 ∧ (Cond.static yX6_oneIf).before args s = true := ⟨(kB h tw_230 tw_1 tw_288 (by decide +kernel) hrc hrs hR), h.use args _ tw_229⟩
theorem k_L_X6_fork {rm : Room} {mc ms : Nat} (h : TB s) (hrc : rm.cells = mc) (hrs : rm.slots = ms) (hR : rm.frames + 1 ≤ R.frames ∧ 8 + (4 + 11) + rm.locals ≤ R.locals) : CallB R s args RL 28 yX6_fork cX6_fork 4 (some .int) [Cond.code yX6_fork cX6_fork 4 (some .int)] rm mc ms 1 ∧ (Cond.instanceMethod yX6_fork).before args s = true ∧ (Cond.selects RX6 yX6_fork yX6_fork).before args s = true := ⟨(kB h tw_292 tw_1 tw_289 (by decide +kernel) hrc hrs hR), h.use args _ tw_290, h.use args _ tw_291⟩
theorem k_X6_X1_becomeLike {rm : Room} {mc ms : Nat} (h : TB s) (hrc : rm.cells = mc) (hrs : rm.slots = ms) (hR : rm.frames + 1 ≤ R.frames ∧ 8 + (3 + 11) + rm.locals ≤ R.locals) : CallB R s args RX6 92 yX1_becomeLike cX1_becomeLike 3 none [Cond.code yX1_becomeLike cX1_becomeLike 3 none] rm mc ms 1 ∧ (Cond.instanceMethod yX1_becomeLike).before args s = true ∧ (Cond.selects RX1 yX1_becomeLike yX1_becomeLike).before args s = true := ⟨(kB h tw_296 tw_3 tw_293 (by decide +kernel) hrc hrs hR), h.use args _ tw_294, h.use args _ tw_295⟩
theorem k_L_X6_change {rm : Room} {mc ms : Nat} (h : TB s) (hrc : rm.cells = mc) (hrs : rm.slots = ms) (hR : rm.frames + 1 ≤ R.frames ∧ 8 + (6 + 11) + rm.locals ≤ R.locals) : CallB R s args RL 33 yX6_change cX6_change 6 (some .int) [Cond.code yX6_change cX6_change 6 (some .int)] rm mc ms 4 ∧ (Cond.instanceMethod yX6_change).before args s = true ∧ (Cond.selects RX6 yX6_change yX6_change).before args s = true := ⟨(kB h tw_300 tw_1 tw_297 (by decide +kernel) hrc hrs hR), h.use args _ tw_298, h.use args _ tw_299⟩
theorem k_X6_X1_makeChange {rm : Room} {mc ms : Nat} (h : TB s) (hrc : rm.cells = mc) (hrs : rm.slots = ms) (hR : rm.frames + 1 ≤ R.frames ∧ 8 + (6 + 11) + rm.locals ≤ R.locals) : CallB R s args RX6 99 yX1_makeChange cX1_makeChange 6 (some .int) [Cond.code yX1_makeChange cX1_makeChange 6 (some .int)] rm mc ms 4 ∧ (Cond.instanceMethod yX1_makeChange).before args s = true ∧ (Cond.selects RX1 yX1_makeChange yX1_makeChange).before args s = true := ⟨(kB h tw_304 tw_3 tw_301 (by decide +kernel) hrc hrs hR), h.use args _ tw_302, h.use args _ tw_303⟩
theorem k_X1_X5_takes {rm : Room} {mc ms : Nat} (h : TB s) (hrc : rm.cells = mc) (hrs : rm.slots = ms) (hR : rm.frames + 1 ≤ R.frames ∧ 8 + (4 + 11) + rm.locals ≤ R.locals) : CallB R s args RX1 83 yX5_takes cX5_takes 4 (some .boolean) [Cond.code yX5_takes cX5_takes 4 (some .boolean)] rm mc ms 3 ∧ (Cond.instanceMethod yX5_takes).before args s = true ∧ (Cond.selects RX5 yX5_takes yX5_takes).before args s = true := ⟨(kB h tw_308 tw_4 tw_305 (by decide +kernel) hrc hrs hR), h.use args _ tw_306, h.use args _ tw_307⟩
theorem k_X5_X5_has {rm : Room} {mc ms : Nat} (h : TB s) (hrc : rm.cells = mc) (hrs : rm.slots = ms) (hR : rm.frames + 1 ≤ R.frames ∧ 8 + (2 + 11) + rm.locals ≤ R.locals) : CallB R s args RX5 20 yX5_has cX5_has 2 (some .boolean) [Cond.code yX5_has cX5_has 2 (some .boolean)] rm mc ms 1 ∧ (Cond.instanceMethod yX5_has).before args s = true ∧ (Cond.selects RX5 yX5_has yX5_has).before args s = true := ⟨(kB h tw_227 tw_4 tw_309 (by decide +kernel) hrc hrs hR), h.use args _ tw_225, h.use args _ tw_226⟩
theorem k_X5_X6_within {rm : Room} {mc ms : Nat} (h : TB s) (hrc : rm.cells = mc) (hrs : rm.slots = ms) (hR : rm.frames + 1 ≤ R.frames ∧ 8 + (3 + 11) + rm.locals ≤ R.locals) : va_CN R s args RX5 24 yX6_within RX6 cX6_within 3 (some .boolean) [Cond.code yX6_within cX6_within 3 (some .boolean)] rm mc ms 3 ∧ (Cond.static yX6_within).before args s = true ∧ True := ⟨(kN h tw_240 tw_1 tw_310 (by decide +kernel) hrc hrs hR), h.use args _ tw_239, trivial⟩
theorem k_X5_X5_leads {rm : Room} {mc ms : Nat} (h : TB s) (hrc : rm.cells = mc) (hrs : rm.slots = ms) (hR : rm.frames + 1 ≤ R.frames ∧ 8 + (5 + 11) + rm.locals ≤ R.locals) : CallB R s args RX5 35 yX5_leads cX5_leads 5 (some .boolean) [Cond.code yX5_leads cX5_leads 5 (some .boolean)] rm mc ms 2 ∧ (Cond.instanceMethod yX5_leads).before args s = true ∧ (Cond.selects RX5 yX5_leads yX5_leads).before args s = true := ⟨(kB h tw_314 tw_4 tw_311 (by decide +kernel) hrc hrs hR), h.use args _ tw_313, h.use args _ tp_5⟩
theorem k_X1_X0_push {rm : Room} {mc ms : Nat} (h : TB s) (hrc : rm.cells = mc) (hrs : rm.slots = ms) (hR : rm.frames + 1 ≤ R.frames ∧ 8 + (5 + 11) + rm.locals ≤ R.locals) : CallB R s args RX1 98 yX0_push cX0_push 5 none [Cond.code yX0_push cX0_push 5 none] rm mc ms 4 ∧ (Cond.instanceMethod yX0_push).before args s = true ∧ (Cond.selects RX0 yX0_push yX0_push).before args s = true := ⟨(kB h tw_318 tw_5 tw_315 (by decide +kernel) hrc hrs hR), h.use args _ tw_316, h.use args _ tw_317⟩
theorem k_X0_arraycopy : Cond.methodLink RX0 30 arraycopyName ∈ lt := tw_319
theorem k_X0_mmin (hx : p.tables.exec = Jvm.exec) (hb : c.code = cc) (hml : c.maxLocals = ls.size) (hown : s.vm.findClass RX0 = some m.cls) (hK : KB D cy s) (hframes : 1 ≤ R.frames) (hlocals : (rest.map fun v => v.category).sum + 13 ≤ R.locals) (hc : cells ≤ R.cells) (hs : slots ≤ R.slots) {x y : Int32} (hdg : decode cc pc = .ok (.invokestatic 39, 3)) (kk : W p l e R s m args below meth c H locs cells slots Q (F0 m (pc + 3) ls (.int (if y < x then y else x) :: rest))) : W p l e R s m args below meth c H locs cells slots Q (F0 m pc ls (.int y :: .int x :: rest)) :=
  va_mmin hx hb hml hown (hK.1.use args _ tw_320) (hK.1.use args _ tw_321) (hK.1.use args _ tw_8) (hK.1.use args _ tw_322) hframes hlocals hc hs hdg kk
theorem k_X1_mmin (hx : p.tables.exec = Jvm.exec) (hb : c.code = cc) (hml : c.maxLocals = ls.size) (hown : s.vm.findClass RX1 = some m.cls) (hK : KB D cy s) (hframes : 1 ≤ R.frames) (hlocals : (rest.map fun v => v.category).sum + 13 ≤ R.locals) (hc : cells ≤ R.cells) (hs : slots ≤ R.slots) {x y : Int32} (hdg : decode cc pc = .ok (.invokestatic 109, 3)) (kk : W p l e R s m args below meth c H locs cells slots Q (F0 m (pc + 3) ls (.int (if y < x then y else x) :: rest))) : W p l e R s m args below meth c H locs cells slots Q (F0 m pc ls (.int y :: .int x :: rest)) :=
  va_mmin hx hb hml hown (hK.1.use args _ tw_323) (hK.1.use args _ tw_321) (hK.1.use args _ tw_8) (hK.1.use args _ tw_322) hframes hlocals hc hs hdg kk
theorem k_X1_X1_layOut {rm : Room} {mc ms : Nat} (h : TB s) (hrc : rm.cells = mc) (hrs : rm.slots = ms) (hR : rm.frames + 1 ≤ R.frames ∧ 8 + (4 + 11) + rm.locals ≤ R.locals) : CallB R s args RX1 87 yX1_layOut cX1_layOut 4 none [Cond.code yX1_layOut cX1_layOut 4 none] rm mc ms 3 ∧ (Cond.instanceMethod yX1_layOut).before args s = true ∧ (Cond.selects RX1 yX1_layOut yX1_layOut).before args s = true := ⟨(kB h tw_327 tw_3 tw_324 (by decide +kernel) hrc hrs hR), h.use args _ tw_326, h.use args _ tp_6⟩
theorem k_X1_X5_put {rm : Room} {mc ms : Nat} (h : TB s) (hrc : rm.cells = mc) (hrs : rm.slots = ms) (hR : rm.frames + 1 ≤ R.frames ∧ 8 + (8 + 11) + rm.locals ≤ R.locals) : CallB R s args RX1 166 yX5_put cX5_put 8 none [Cond.code yX5_put cX5_put 8 none] rm mc ms 3 ∧ (Cond.instanceMethod yX5_put).before args s = true ∧ (Cond.selects RX5 yX5_put yX5_put).before args s = true := ⟨(kB h tw_331 tw_4 tw_328 (by decide +kernel) hrc hrs hR), h.use args _ tw_329, h.use args _ tw_330⟩
theorem k_X1_X1_gainUnlessForgotten {rm : Room} {mc ms : Nat} (h : TB s) (hrc : rm.cells = mc) (hrs : rm.slots = ms) (hR : rm.frames + 1 ≤ R.frames ∧ 8 + (3 + 11) + rm.locals ≤ R.locals) : CallB R s args RX1 91 yX1_gainUnlessForgotten cX1_gainUnlessForgotten 3 (some .long) [Cond.code yX1_gainUnlessForgotten cX1_gainUnlessForgotten 3 (some .long)] rm mc ms 1 ∧ (Cond.instanceMethod yX1_gainUnlessForgotten).before args s = true ∧ (Cond.selects RX1 yX1_gainUnlessForgotten yX1_gainUnlessForgotten).before args s = true := ⟨(kB h tw_335 tw_3 tw_332 (by decide +kernel) hrc hrs hR), h.use args _ tw_334, h.use args _ tp_7⟩
theorem k_X1_X2_countTouched {rm : Room} {mc ms : Nat} (h : TB s) (hrc : rm.cells = mc) (hrs : rm.slots = ms) (hR : rm.frames + 1 ≤ R.frames ∧ 8 + (7 + 11) + rm.locals ≤ R.locals) : CallB R s args RX1 169 yX2_countTouched cX2_countTouched 7 (some .int) [Cond.code yX2_countTouched cX2_countTouched 7 (some .int)] rm mc ms 2 ∧ (Cond.instanceMethod yX2_countTouched).before args s = true ∧ (Cond.selects RX2 yX2_countTouched yX2_countTouched).before args s = true := ⟨(kB h tw_339 tw_9 tw_336 (by decide +kernel) hrc hrs hR), h.use args _ tw_337, h.use args _ tw_338⟩
theorem k_X1_X5_countOther {rm : Room} {mc ms : Nat} (h : TB s) (hrc : rm.cells = mc) (hrs : rm.slots = ms) (hR : rm.frames + 1 ≤ R.frames ∧ 8 + (5 + 11) + rm.locals ≤ R.locals) : CallB R s args RX1 115 yX5_countOther cX5_countOther 5 (some .int) [Cond.code yX5_countOther cX5_countOther 5 (some .int)] rm mc ms 1 ∧ (Cond.instanceMethod yX5_countOther).before args s = true ∧ (Cond.selects RX5 yX5_countOther yX5_countOther).before args s = true := ⟨(kB h tw_343 tw_4 tw_340 (by decide +kernel) hrc hrs hR), h.use args _ tw_341, h.use args _ tw_342⟩
theorem k_X5_X6_oneIf {rm : Room} {mc ms : Nat} (h : TB s) (hrc : rm.cells = mc) (hrs : rm.slots = ms) (hR : rm.frames + 1 ≤ R.frames ∧ 8 + (1 + 11) + rm.locals ≤ R.locals) : va_CN R s args RX5 39 yX6_oneIf RX6 cX6_oneIf 1 (some .int) [Cond.code yX6_oneIf cX6_oneIf 1 (some .int)] rm mc ms 1 ∧ (Cond.static yX6_oneIf).before args s = true ∧ True := ⟨(kN h tw_230 tw_1 tw_344 (by decide +kernel) hrc hrs hR), h.use args _ tw_229, trivial⟩
theorem k_X1_X1_moveOn {rm : Room} {mc ms : Nat} (h : TB s) (hrc : rm.cells = mc) (hrs : rm.slots = ms) (hR : rm.frames + 1 ≤ R.frames ∧ 8 + (2 + 11) + rm.locals ≤ R.locals) : CallB R s args RX1 119 yX1_moveOn cX1_moveOn 2 none [Cond.code yX1_moveOn cX1_moveOn 2 none] rm mc ms 0 ∧ (Cond.instanceMethod yX1_moveOn).before args s = true ∧ (Cond.selects RX1 yX1_moveOn yX1_moveOn).before args s = true := ⟨(kB h tw_348 tw_3 tw_345 (by decide +kernel) hrc hrs hR), h.use args _ tw_347, h.use args _ tp_8⟩
theorem k_X1_X1_firstFalse {rm : Room} {mc ms : Nat} (h : TB s) (hrc : rm.cells = mc) (hrs : rm.slots = ms) (hR : rm.frames + 1 ≤ R.frames ∧ 8 + (2 + 11) + rm.locals ≤ R.locals) : CallB R s args RX1 125 yX1_firstFalse cX1_firstFalse 2 (some .int) [Cond.code yX1_firstFalse cX1_firstFalse 2 (some .int)] rm mc ms 0 ∧ (Cond.instanceMethod yX1_firstFalse).before args s = true ∧ (Cond.selects RX1 yX1_firstFalse yX1_firstFalse).before args s = true := ⟨(kB h tw_352 tw_3 tw_349 (by decide +kernel) hrc hrs hR), h.use args _ tw_350, h.use args _ tw_351⟩
theorem k_X1_X1_isFalse {rm : Room} {mc ms : Nat} (h : TB s) (hrc : rm.cells = mc) (hrs : rm.slots = ms) (hR : rm.frames + 1 ≤ R.frames ∧ 8 + (2 + 11) + rm.locals ≤ R.locals) : CallB R s args RX1 73 yX1_isFalse cX1_isFalse 2 (some .boolean) [Cond.code yX1_isFalse cX1_isFalse 2 (some .boolean)] rm mc ms 1 ∧ (Cond.instanceMethod yX1_isFalse).before args s = true ∧ (Cond.selects RX1 yX1_isFalse yX1_isFalse).before args s = true := ⟨(kB h tw_356 tw_3 tw_353 (by decide +kernel) hrc hrs hR), h.use args _ tw_354, h.use args _ tw_355⟩
theorem k_L_X6_attempt {rm : Room} {mc ms : Nat} (h : TB s) (hrc : rm.cells = mc) (hrs : rm.slots = ms) (hR : rm.frames + 1 ≤ R.frames ∧ 8 + (7 + 11) + rm.locals ≤ R.locals) : CallB R s args RL 38 yX6_attempt cX6_attempt 7 (some .long) [Cond.code yX6_attempt cX6_attempt 7 (some .long)] rm mc ms 5 ∧ (Cond.instanceMethod yX6_attempt).before args s = true ∧ (Cond.selects RX6 yX6_attempt yX6_attempt).before args s = true := ⟨(kB h tw_360 tw_1 tw_357 (by decide +kernel) hrc hrs hR), h.use args _ tw_358, h.use args _ tw_359⟩
theorem k_X6_X1_scoreBehind {rm : Room} {mc ms : Nat} (h : TB s) (hrc : rm.cells = mc) (hrs : rm.slots = ms) (hR : rm.frames + 1 ≤ R.frames ∧ 8 + (8 + 11) + rm.locals ≤ R.locals) : CallB R s args RX6 108 yX1_scoreBehind cX1_scoreBehind 8 (some .long) [Cond.code yX1_scoreBehind cX1_scoreBehind 8 (some .long)] rm mc ms 4 ∧ (Cond.instanceMethod yX1_scoreBehind).before args s = true ∧ (Cond.selects RX1 yX1_scoreBehind yX1_scoreBehind).before args s = true := ⟨(kB h tw_365 tw_3 tw_362 (by decide +kernel) hrc hrs hR), h.use args _ tw_363, h.use args _ tw_364⟩
theorem k_X1_X1_scoreNow {rm : Room} {mc ms : Nat} (h : TB s) (hrc : rm.cells = mc) (hrs : rm.slots = ms) (hR : rm.frames + 1 ≤ R.frames ∧ 8 + (5 + 11) + rm.locals ≤ R.locals) : CallB R s args RX1 80 yX1_scoreNow cX1_scoreNow 5 (some .long) [Cond.code yX1_scoreNow cX1_scoreNow 5 (some .long)] rm mc ms 1 ∧ (Cond.instanceMethod yX1_scoreNow).before args s = true ∧ (Cond.selects RX1 yX1_scoreNow yX1_scoreNow).before args s = true := ⟨(kB h tw_369 tw_3 tw_366 (by decide +kernel) hrc hrs hR), h.use args _ tw_367, h.use args _ tw_368⟩
theorem k_L_X6_undo {rm : Room} {mc ms : Nat} (h : TB s) (hrc : rm.cells = mc) (hrs : rm.slots = ms) (hR : rm.frames + 1 ≤ R.frames ∧ 8 + (3 + 11) + rm.locals ≤ R.locals) : CallB R s args RL 43 yX6_undo cX6_undo 3 (some .int) [Cond.code yX6_undo cX6_undo 3 (some .int)] rm mc ms 1 ∧ (Cond.instanceMethod yX6_undo).before args s = true ∧ (Cond.selects RX6 yX6_undo yX6_undo).before args s = true := ⟨(kB h tw_373 tw_1 tw_370 (by decide +kernel) hrc hrs hR), h.use args _ tw_371, h.use args _ tw_372⟩
theorem k_X6_X1_undoable {rm : Room} {mc ms : Nat} (h : TB s) (hrc : rm.cells = mc) (hrs : rm.slots = ms) (hR : rm.frames + 1 ≤ R.frames ∧ 8 + (1 + 11) + rm.locals ≤ R.locals) : CallB R s args RX6 112 yX1_undoable cX1_undoable 1 (some .int) [Cond.code yX1_undoable cX1_undoable 1 (some .int)] rm mc ms 0 ∧ (Cond.instanceMethod yX1_undoable).before args s = true ∧ (Cond.selects RX1 yX1_undoable yX1_undoable).before args s = true := ⟨(kB h tw_377 tw_3 tw_374 (by decide +kernel) hrc hrs hR), h.use args _ tw_375, h.use args _ tw_376⟩
theorem k_X6_X1_takeBack {rm : Room} {mc ms : Nat} (h : TB s) (hrc : rm.cells = mc) (hrs : rm.slots = ms) (hR : rm.frames + 1 ≤ R.frames ∧ 8 + (2 + 11) + rm.locals ≤ R.locals) : CallB R s args RX6 115 yX1_takeBack cX1_takeBack 2 none [Cond.code yX1_takeBack cX1_takeBack 2 none] rm mc ms 0 ∧ (Cond.instanceMethod yX1_takeBack).before args s = true ∧ (Cond.selects RX1 yX1_takeBack yX1_takeBack).before args s = true := ⟨(kB h tw_381 tw_3 tw_378 (by decide +kernel) hrc hrs hR), h.use args _ tw_379, h.use args _ tw_380⟩
theorem k_X1_X0_pop {rm : Room} {mc ms : Nat} (h : TB s) (hrc : rm.cells = mc) (hrs : rm.slots = ms) (hR : rm.frames + 1 ≤ R.frames ∧ 8 + (1 + 11) + rm.locals ≤ R.locals) : CallB R s args RX1 132 yX0_pop cX0_pop 1 (some .int) [Cond.code yX0_pop cX0_pop 1 (some .int)] rm mc ms 0 ∧ (Cond.instanceMethod yX0_pop).before args s = true ∧ (Cond.selects RX0 yX0_pop yX0_pop).before args s = true := ⟨(kB h tw_385 tw_5 tw_382 (by decide +kernel) hrc hrs hR), h.use args _ tw_383, h.use args _ tw_384⟩
theorem k_X1_arraycopy : Cond.methodLink RX1 147 arraycopyName ∈ lt := tw_386
theorem k_L_X6_begin {rm : Room} {mc ms : Nat} (h : TB s) (hrc : rm.cells = mc) (hrs : rm.slots = ms) (hR : rm.frames + 1 ≤ R.frames ∧ 8 + (3 + 11) + rm.locals ≤ R.locals) : CallB R s args RL 47 yX6_begin cX6_begin 3 (some .int) [Cond.code yX6_begin cX6_begin 3 (some .int)] rm mc ms 1 ∧ (Cond.instanceMethod yX6_begin).before args s = true ∧ (Cond.selects RX6 yX6_begin yX6_begin).before args s = true := ⟨(kB h tw_390 tw_1 tw_387 (by decide +kernel) hrc hrs hR), h.use args _ tw_388, h.use args _ tw_389⟩
theorem k_L_X6_end {rm : Room} {mc ms : Nat} (h : TB s) (hrc : rm.cells = mc) (hrs : rm.slots = ms) (hR : rm.frames + 1 ≤ R.frames ∧ 8 + (4 + 11) + rm.locals ≤ R.locals) : CallB R s args RL 51 yX6_end cX6_end 4 (some .int) [Cond.code yX6_end cX6_end 4 (some .int)] rm mc ms 2 ∧ (Cond.instanceMethod yX6_end).before args s = true ∧ (Cond.selects RX6 yX6_end yX6_end).before args s = true := ⟨(kB h tw_394 tw_1 tw_391 (by decide +kernel) hrc hrs hR), h.use args _ tw_392, h.use args _ tw_393⟩
theorem k_X6_X1_closeBatch {rm : Room} {mc ms : Nat} (h : TB s) (hrc : rm.cells = mc) (hrs : rm.slots = ms) (hR : rm.frames + 1 ≤ R.frames ∧ 8 + (4 + 11) + rm.locals ≤ R.locals) : CallB R s args RX6 134 yX1_closeBatch cX1_closeBatch 4 (some .int) [Cond.code yX1_closeBatch cX1_closeBatch 4 (some .int)] rm mc ms 1 ∧ (Cond.instanceMethod yX1_closeBatch).before args s = true ∧ (Cond.selects RX1 yX1_closeBatch yX1_closeBatch).before args s = true := ⟨(kB h tw_398 tw_3 tw_395 (by decide +kernel) hrc hrs hR), h.use args _ tw_396, h.use args _ tw_397⟩
theorem k_X1_X1_takeBack {rm : Room} {mc ms : Nat} (h : TB s) (hrc : rm.cells = mc) (hrs : rm.slots = ms) (hR : rm.frames + 1 ≤ R.frames ∧ 8 + (2 + 11) + rm.locals ≤ R.locals) : CallB R s args RX1 153 yX1_takeBack cX1_takeBack 2 none [Cond.code yX1_takeBack cX1_takeBack 2 none] rm mc ms 0 ∧ (Cond.instanceMethod yX1_takeBack).before args s = true ∧ (Cond.selects RX1 yX1_takeBack yX1_takeBack).before args s = true := ⟨(kB h tw_381 tw_3 tw_399 (by decide +kernel) hrc hrs hR), h.use args _ tw_379, h.use args _ tw_380⟩
theorem k_L_X6_member {rm : Room} {mc ms : Nat} (h : TB s) (hrc : rm.cells = mc) (hrs : rm.slots = ms) (hR : rm.frames + 1 ≤ R.frames ∧ 8 + (5 + 11) + rm.locals ≤ R.locals) : CallB R s args RL 56 yX6_member cX6_member 5 (some .int) [Cond.code yX6_member cX6_member 5 (some .int)] rm mc ms 3 ∧ (Cond.instanceMethod yX6_member).before args s = true ∧ (Cond.selects RX6 yX6_member yX6_member).before args s = true := ⟨(kB h tw_403 tw_1 tw_400 (by decide +kernel) hrc hrs hR), h.use args _ tw_401, h.use args _ tw_402⟩
theorem k_X6_X5_read {rm : Room} {mc ms : Nat} (h : TB s) (hrc : rm.cells = mc) (hrs : rm.slots = ms) (hR : rm.frames + 1 ≤ R.frames ∧ 8 + (3 + 11) + rm.locals ≤ R.locals) : CallB R s args RX6 138 yX5_read cX5_read 3 (some .int) [Cond.code yX5_read cX5_read 3 (some .int)] rm mc ms 2 ∧ (Cond.instanceMethod yX5_read).before args s = true ∧ (Cond.selects RX5 yX5_read yX5_read).before args s = true := ⟨(kB h tw_407 tw_4 tw_404 (by decide +kernel) hrc hrs hR), h.use args _ tw_405, h.use args _ tw_406⟩
theorem k_L_X6_score {rm : Room} {mc ms : Nat} (h : TB s) (hrc : rm.cells = mc) (hrs : rm.slots = ms) (hR : rm.frames + 1 ≤ R.frames ∧ 8 + (4 + 11) + rm.locals ≤ R.locals) : CallB R s args RL 61 yX6_score cX6_score 4 (some .long) [Cond.code yX6_score cX6_score 4 (some .long)] rm mc ms 2 ∧ (Cond.instanceMethod yX6_score).before args s = true ∧ (Cond.selects RX6 yX6_score yX6_score).before args s = true := ⟨(kB h tw_412 tw_1 tw_409 (by decide +kernel) hrc hrs hR), h.use args _ tw_410, h.use args _ tw_411⟩
theorem k_X6_X1_scoreNow {rm : Room} {mc ms : Nat} (h : TB s) (hrc : rm.cells = mc) (hrs : rm.slots = ms) (hR : rm.frames + 1 ≤ R.frames ∧ 8 + (5 + 11) + rm.locals ≤ R.locals) : CallB R s args RX6 142 yX1_scoreNow cX1_scoreNow 5 (some .long) [Cond.code yX1_scoreNow cX1_scoreNow 5 (some .long)] rm mc ms 1 ∧ (Cond.instanceMethod yX1_scoreNow).before args s = true ∧ (Cond.selects RX1 yX1_scoreNow yX1_scoreNow).before args s = true := ⟨(kB h tw_369 tw_3 tw_413 (by decide +kernel) hrc hrs hR), h.use args _ tw_367, h.use args _ tw_368⟩
theorem k_L_X6_worth {rm : Room} {mc ms : Nat} (h : TB s) (hrc : rm.cells = mc) (hrs : rm.slots = ms) (hR : rm.frames + 1 ≤ R.frames ∧ 8 + (5 + 11) + rm.locals ≤ R.locals) : CallB R s args RL 66 yX6_worth cX6_worth 5 (some .long) [Cond.code yX6_worth cX6_worth 5 (some .long)] rm mc ms 3 ∧ (Cond.instanceMethod yX6_worth).before args s = true ∧ (Cond.selects RX6 yX6_worth yX6_worth).before args s = true := ⟨(kB h tw_417 tw_1 tw_414 (by decide +kernel) hrc hrs hR), h.use args _ tw_415, h.use args _ tw_416⟩
theorem k_L_X6_check {rm : Room} {mc ms : Nat} (h : TB s) (hrc : rm.cells = mc) (hrs : rm.slots = ms) (hR : rm.frames + 1 ≤ R.frames ∧ 8 + (3 + 11) + rm.locals ≤ R.locals) : CallB R s args RL 71 yX6_check cX6_check 3 (some .int) [Cond.code yX6_check cX6_check 3 (some .int)] rm mc ms 1 ∧ (Cond.instanceMethod yX6_check).before args s = true ∧ (Cond.selects RX6 yX6_check yX6_check).before args s = true := ⟨(kB h tw_421 tw_1 tw_418 (by decide +kernel) hrc hrs hR), h.use args _ tw_419, h.use args _ tw_420⟩
theorem k_X6_X1_firstFalse {rm : Room} {mc ms : Nat} (h : TB s) (hrc : rm.cells = mc) (hrs : rm.slots = ms) (hR : rm.frames + 1 ≤ R.frames ∧ 8 + (2 + 11) + rm.locals ≤ R.locals) : CallB R s args RX6 149 yX1_firstFalse cX1_firstFalse 2 (some .int) [Cond.code yX1_firstFalse cX1_firstFalse 2 (some .int)] rm mc ms 0 ∧ (Cond.instanceMethod yX1_firstFalse).before args s = true ∧ (Cond.selects RX1 yX1_firstFalse yX1_firstFalse).before args s = true := ⟨(kB h tw_352 tw_3 tw_422 (by decide +kernel) hrc hrs hR), h.use args _ tw_350, h.use args _ tw_351⟩
theorem k_L_X6_every {rm : Room} {mc ms : Nat} (h : TB s) (hrc : rm.cells = mc) (hrs : rm.slots = ms) (hR : rm.frames + 1 ≤ R.frames ∧ 8 + (3 + 11) + rm.locals ≤ R.locals) : CallB R s args RL 75 yX6_every cX6_every 3 (some .int) [Cond.code yX6_every cX6_every 3 (some .int)] rm mc ms 1 ∧ (Cond.instanceMethod yX6_every).before args s = true ∧ (Cond.selects RX6 yX6_every yX6_every).before args s = true := ⟨(kB h tw_426 tw_1 tw_423 (by decide +kernel) hrc hrs hR), h.use args _ tw_424, h.use args _ tw_425⟩
theorem k_L_X6_mend {rm : Room} {mc ms : Nat} (h : TB s) (hrc : rm.cells = mc) (hrs : rm.slots = ms) (hR : rm.frames + 1 ≤ R.frames ∧ 8 + (5 + 11) + rm.locals ≤ R.locals) : CallB R s args RL 79 yX6_mend cX6_mend 5 (some .int) [Cond.code yX6_mend cX6_mend 5 (some .int)] rm mc ms 2 ∧ (Cond.instanceMethod yX6_mend).before args s = true ∧ (Cond.selects RX6 yX6_mend yX6_mend).before args s = true := ⟨(kB h tw_430 tw_1 tw_427 (by decide +kernel) hrc hrs hR), h.use args _ tw_428, h.use args _ tw_429⟩
theorem k_X6_X1_isFalse {rm : Room} {mc ms : Nat} (h : TB s) (hrc : rm.cells = mc) (hrs : rm.slots = ms) (hR : rm.frames + 1 ≤ R.frames ∧ 8 + (2 + 11) + rm.locals ≤ R.locals) : CallB R s args RX6 152 yX1_isFalse cX1_isFalse 2 (some .boolean) [Cond.code yX1_isFalse cX1_isFalse 2 (some .boolean)] rm mc ms 1 ∧ (Cond.instanceMethod yX1_isFalse).before args s = true ∧ (Cond.selects RX1 yX1_isFalse yX1_isFalse).before args s = true := ⟨(kB h tw_356 tw_3 tw_431 (by decide +kernel) hrc hrs hR), h.use args _ tw_354, h.use args _ tw_355⟩
theorem k_L_X6_keep {rm : Room} {mc ms : Nat} (h : TB s) (hrc : rm.cells = mc) (hrs : rm.slots = ms) (hR : rm.frames + 1 ≤ R.frames ∧ 8 + (3 + 11) + rm.locals ≤ R.locals) : CallB R s args RL 84 yX6_keep cX6_keep 3 (some .int) [Cond.code yX6_keep cX6_keep 3 (some .int)] rm mc ms 1 ∧ (Cond.instanceMethod yX6_keep).before args s = true ∧ (Cond.selects RX6 yX6_keep yX6_keep).before args s = true := ⟨(kB h tw_435 tw_1 tw_432 (by decide +kernel) hrc hrs hR), h.use args _ tw_433, h.use args _ tw_434⟩
theorem k_X6_X4_init {rm : Room} {mc ms : Nat} (h : TB s) (hrc : rm.cells = mc) (hrs : rm.slots = ms) (hR : rm.frames + 1 ≤ R.frames ∧ 8 + (3 + 11) + rm.locals ≤ R.locals) : CallB R s args RX6 158 yX4_init cX4_init 3 none [Cond.code yX4_init cX4_init 3 none] rm mc ms 1 ∧ yX4_init.name = "<init>" ∧ (Cond.instanceMethod yX4_init).before args s = true := ⟨(kB h tw_439 tw_10 tw_437 (by decide +kernel) hrc hrs hR), rfl, h.use args _ tw_438⟩
theorem k_X4_X5_init {rm : Room} {mc ms : Nat} (h : TB s) (hrc : rm.cells = mc) (hrs : rm.slots = ms) (hR : rm.frames + 1 ≤ R.frames ∧ 8 + (1 + 11) + rm.locals ≤ R.locals) : va_CN R s args RX4 11 yX5_init RX6 cX5_init 1 none [Cond.code yX5_init cX5_init 1 none] rm mc ms 0 ∧ yX5_init.name = "<init>" ∧ (Cond.instanceMethod yX5_init).before args s = true := ⟨(kN h tw_48 tw_4 tw_442 (by decide +kernel) hrc hrs hR), rfl, h.use args _ tw_47⟩
theorem k_X4_X5_becomeLike {rm : Room} {mc ms : Nat} (h : TB s) (hrc : rm.cells = mc) (hrs : rm.slots = ms) (hR : rm.frames + 1 ≤ R.frames ∧ 8 + (3 + 11) + rm.locals ≤ R.locals) : CallB R s args RX4 27 yX5_becomeLike cX5_becomeLike 3 none [Cond.code yX5_becomeLike cX5_becomeLike 3 none] rm mc ms 1 ∧ (Cond.instanceMethod yX5_becomeLike).before args s = true ∧ (Cond.selects RX5 yX5_becomeLike yX5_becomeLike).before args s = true := ⟨(kB h tw_178 tw_4 tw_443 (by decide +kernel) hrc hrs hR), h.use args _ tw_176, h.use args _ tw_177⟩
theorem k_X4_X1_scoreNow {rm : Room} {mc ms : Nat} (h : TB s) (hrc : rm.cells = mc) (hrs : rm.slots = ms) (hR : rm.frames + 1 ≤ R.frames ∧ 8 + (5 + 11) + rm.locals ≤ R.locals) : CallB R s args RX4 31 yX1_scoreNow cX1_scoreNow 5 (some .long) [Cond.code yX1_scoreNow cX1_scoreNow 5 (some .long)] rm mc ms 1 ∧ (Cond.instanceMethod yX1_scoreNow).before args s = true ∧ (Cond.selects RX1 yX1_scoreNow yX1_scoreNow).before args s = true := ⟨(kB h tw_369 tw_3 tw_444 (by decide +kernel) hrc hrs hR), h.use args _ tw_367, h.use args _ tw_368⟩
theorem k_L_X6_kept {rm : Room} {mc ms : Nat} (h : TB s) (hrc : rm.cells = mc) (hrs : rm.slots = ms) (hR : rm.frames + 1 ≤ R.frames ∧ 8 + (4 + 11) + rm.locals ≤ R.locals) : CallB R s args RL 88 yX6_kept cX6_kept 4 (some .long) [Cond.code yX6_kept cX6_kept 4 (some .long)] rm mc ms 2 ∧ (Cond.instanceMethod yX6_kept).before args s = true ∧ (Cond.selects RX6 yX6_kept yX6_kept).before args s = true := ⟨(kB h tw_457 tw_1 tw_454 (by decide +kernel) hrc hrs hR), h.use args _ tw_455, h.use args _ tw_456⟩
theorem k_X6_X6_snapshotAt {rm : Room} {mc ms : Nat} (h : TB s) (hrc : rm.cells = mc) (hrs : rm.slots = ms) (hR : rm.frames + 1 ≤ R.frames ∧ 8 + (2 + 11) + rm.locals ≤ R.locals) : CallB R s args RX6 160 yX6_snapshotAt cX6_snapshotAt 2 (some (.object "ScoreDifferences$Snapshot")) [Cond.code yX6_snapshotAt cX6_snapshotAt 2 (some (.object "ScoreDifferences$Snapshot"))] rm mc ms 1 ∧ (Cond.instanceMethod yX6_snapshotAt).before args s = true ∧ (Cond.selects RX6 yX6_snapshotAt yX6_snapshotAt).before args s = true := ⟨(kB h tw_461 tw_1 tw_458 (by decide +kernel) hrc hrs hR), h.use args _ tw_460, h.use args _ tp_9⟩
theorem k_L_X6_then {rm : Room} {mc ms : Nat} (h : TB s) (hrc : rm.cells = mc) (hrs : rm.slots = ms) (hR : rm.frames + 1 ≤ R.frames ∧ 8 + (5 + 11) + rm.locals ≤ R.locals) : CallB R s args RL 92 yX6_then cX6_then 5 (some .int) [Cond.code yX6_then cX6_then 5 (some .int)] rm mc ms 3 ∧ (Cond.instanceMethod yX6_then).before args s = true ∧ (Cond.selects RX6 yX6_then yX6_then).before args s = true := ⟨(kB h tw_465 tw_1 tw_462 (by decide +kernel) hrc hrs hR), h.use args _ tw_463, h.use args _ tw_464⟩
theorem k_L_X6_told {rm : Room} {mc ms : Nat} (h : TB s) (hrc : rm.cells = mc) (hrs : rm.slots = ms) (hR : rm.frames + 1 ≤ R.frames ∧ 8 + (4 + 11) + rm.locals ≤ R.locals) : CallB R s args RL 96 yX6_told cX6_told 4 (some .int) [Cond.code yX6_told cX6_told 4 (some .int)] rm mc ms 2 ∧ (Cond.instanceMethod yX6_told).before args s = true ∧ (Cond.selects RX6 yX6_told yX6_told).before args s = true := ⟨(kB h tw_469 tw_1 tw_466 (by decide +kernel) hrc hrs hR), h.use args _ tw_467, h.use args _ tw_468⟩
theorem k_X6_X1_figure {rm : Room} {mc ms : Nat} (h : TB s) (hrc : rm.cells = mc) (hrs : rm.slots = ms) (hR : rm.frames + 1 ≤ R.frames ∧ 8 + (2 + 11) + rm.locals ≤ R.locals) : CallB R s args RX6 170 yX1_figure cX1_figure 2 (some .int) [Cond.code yX1_figure cX1_figure 2 (some .int)] rm mc ms 1 ∧ (Cond.instanceMethod yX1_figure).before args s = true ∧ (Cond.selects RX1 yX1_figure yX1_figure).before args s = true := ⟨(kB h tw_473 tw_3 tw_470 (by decide +kernel) hrc hrs hR), h.use args _ tw_471, h.use args _ tw_472⟩
theorem k_X1_X6_oneIf {rm : Room} {mc ms : Nat} (h : TB s) (hrc : rm.cells = mc) (hrs : rm.slots = ms) (hR : rm.frames + 1 ≤ R.frames ∧ 8 + (1 + 11) + rm.locals ≤ R.locals) : va_CN R s args RX1 159 yX6_oneIf RX6 cX6_oneIf 1 (some .int) [Cond.code yX6_oneIf cX6_oneIf 1 (some .int)] rm mc ms 1 ∧ (Cond.static yX6_oneIf).before args s = true ∧ True := ⟨(kN h tw_230 tw_1 tw_474 (by decide +kernel) hrc hrs hR), h.use args _ tw_229, trivial⟩
theorem k_X1_X1_countForgetting {rm : Room} {mc ms : Nat} (h : TB s) (hrc : rm.cells = mc) (hrs : rm.slots = ms) (hR : rm.frames + 1 ≤ R.frames ∧ 8 + (3 + 11) + rm.locals ≤ R.locals) : CallB R s args RX1 163 yX1_countForgetting cX1_countForgetting 3 (some .int) [Cond.code yX1_countForgetting cX1_countForgetting 3 (some .int)] rm mc ms 0 ∧ (Cond.instanceMethod yX1_countForgetting).before args s = true ∧ (Cond.selects RX1 yX1_countForgetting yX1_countForgetting).before args s = true := ⟨(kB h tw_478 tw_3 tw_475 (by decide +kernel) hrc hrs hR), h.use args _ tw_477, h.use args _ tp_10⟩
theorem k_L_X6_all {rm : Room} {mc ms : Nat} (h : TB s) (hrc : rm.cells = mc) (hrs : rm.slots = ms) (hR : rm.frames + 1 ≤ R.frames ∧ 8 + (2 + 11) + rm.locals ≤ R.locals) : CallB R s args RL 100 yX6_all cX6_all 2 (some .int) [Cond.code yX6_all cX6_all 2 (some .int)] rm mc ms 1 ∧ (Cond.instanceMethod yX6_all).before args s = true ∧ (Cond.selects RX6 yX6_all yX6_all).before args s = true := ⟨(kB h tw_482 tw_1 tw_479 (by decide +kernel) hrc hrs hR), h.use args _ tw_480, h.use args _ tw_481⟩
theorem k_L_X7_init {rm : Room} {mc ms : Nat} (h : TB s) (hrc : rm.cells = mc) (hrs : rm.slots = ms) (hR : rm.frames + 1 ≤ R.frames ∧ 8 + (2 + 11) + rm.locals ≤ R.locals) : CallB R s args RL 12 yX7_init cX7_init 2 none [Cond.code yX7_init cX7_init 2 none] rm mc ms 0 ∧ yX7_init.name = "<init>" ∧ (Cond.instanceMethod yX7_init).before args s = true := ⟨(kB h tw_487 tw_6 tw_485 (by decide +kernel) hrc hrs hR), rfl, h.use args _ tw_486⟩
theorem k_L_X7_object {rm : Room} {mc ms : Nat} (h : TB s) (hrc : rm.cells = mc) (hrs : rm.slots = ms) (hR : rm.frames + 1 ≤ R.frames ∧ 8 + (2 + 11) + rm.locals ≤ R.locals) : CallB R s args RL 17 yX7_object cX7_object 2 (some .int) [Cond.code yX7_object cX7_object 2 (some .int)] rm mc ms 0 ∧ (Cond.instanceMethod yX7_object).before args s = true ∧ (Cond.selects RX7 yX7_object yX7_object).before args s = true := ⟨(kB h tw_577 tw_6 tw_574 (by decide +kernel) hrc hrs hR), h.use args _ tw_575, h.use args _ tw_576⟩
theorem k_X7_X7_isBegun {rm : Room} {mc ms : Nat} (h : TB s) (hrc : rm.cells = mc) (hrs : rm.slots = ms) (hR : rm.frames + 1 ≤ R.frames ∧ 8 + (1 + 11) + rm.locals ≤ R.locals) : CallB R s args RX7 103 yX7_isBegun cX7_isBegun 1 (some .boolean) [Cond.code yX7_isBegun cX7_isBegun 1 (some .boolean)] rm mc ms 0 ∧ (Cond.instanceMethod yX7_isBegun).before args s = true ∧ (Cond.selects RX7 yX7_isBegun yX7_isBegun).before args s = true := ⟨(kB h tw_581 tw_6 tw_578 (by decide +kernel) hrc hrs hR), h.use args _ tw_580, h.use args _ tp_11⟩
theorem k_X7_X7_remember {rm : Room} {mc ms : Nat} (h : TB s) (hrc : rm.cells = mc) (hrs : rm.slots = ms) (hR : rm.frames + 1 ≤ R.frames ∧ 8 + (3 + 11) + rm.locals ≤ R.locals) : CallB R s args RX7 107 yX7_remember cX7_remember 3 none [Cond.code yX7_remember cX7_remember 3 none] rm mc ms 1 ∧ (Cond.instanceMethod yX7_remember).before args s = true ∧ (Cond.selects RX7 yX7_remember yX7_remember).before args s = true := ⟨(kB h tw_585 tw_6 tw_582 (by decide +kernel) hrc hrs hR), h.use args _ tw_584, h.use args _ tp_12⟩
theorem k_X7_X7_worthOf {rm : Room} {mc ms : Nat} (h : TB s) (hrc : rm.cells = mc) (hrs : rm.slots = ms) (hR : rm.frames + 1 ≤ R.frames ∧ 8 + (15 + 11) + rm.locals ≤ R.locals) : CallB R s args RX7 99 yX7_worthOf cX7_worthOf 15 (some .long) [Cond.code yX7_worthOf cX7_worthOf 15 (some .long)] rm mc ms 2 ∧ (Cond.instanceMethod yX7_worthOf).before args s = true ∧ (Cond.selects RX7 yX7_worthOf yX7_worthOf).before args s = true := ⟨(kB h tw_589 tw_6 tw_586 (by decide +kernel) hrc hrs hR), h.use args _ tw_588, h.use args _ tp_13⟩
theorem k_X7_X7_at {rm : Room} {mc ms : Nat} (h : TB s) (hrc : rm.cells = mc) (hrs : rm.slots = ms) (hR : rm.frames + 1 ≤ R.frames ∧ 8 + (4 + 11) + rm.locals ≤ R.locals) : CallB R s args RX7 92 yX7_at cX7_at 4 (some .int) [Cond.code yX7_at cX7_at 4 (some .int)] rm mc ms 3 ∧ (Cond.instanceMethod yX7_at).before args s = true ∧ (Cond.selects RX7 yX7_at yX7_at).before args s = true := ⟨(kB h tw_593 tw_6 tw_590 (by decide +kernel) hrc hrs hR), h.use args _ tw_592, h.use args _ tp_14⟩
theorem k_L_X7_rule {rm : Room} {mc ms : Nat} (h : TB s) (hrc : rm.cells = mc) (hrs : rm.slots = ms) (hR : rm.frames + 1 ≤ R.frames ∧ 8 + (6 + 11) + rm.locals ≤ R.locals) : CallB R s args RL 22 yX7_rule cX7_rule 6 (some .int) [Cond.code yX7_rule cX7_rule 6 (some .int)] rm mc ms 5 ∧ (Cond.instanceMethod yX7_rule).before args s = true ∧ (Cond.selects RX7 yX7_rule yX7_rule).before args s = true := ⟨(kB h tw_597 tw_6 tw_594 (by decide +kernel) hrc hrs hR), h.use args _ tw_595, h.use args _ tw_596⟩
theorem k_X7_X7_in {rm : Room} {mc ms : Nat} (h : TB s) (hrc : rm.cells = mc) (hrs : rm.slots = ms) (hR : rm.frames + 1 ≤ R.frames ∧ 8 + (3 + 11) + rm.locals ≤ R.locals) : CallB R s args RX7 85 yX7_in cX7_in 3 (some .boolean) [Cond.code yX7_in cX7_in 3 (some .boolean)] rm mc ms 3 ∧ (Cond.static yX7_in).before args s = true := ⟨(kB h tw_600 tw_6 tw_598 (by decide +kernel) hrc hrs hR), h.use args _ tw_599⟩
theorem k_L_X7_forget {rm : Room} {mc ms : Nat} (h : TB s) (hrc : rm.cells = mc) (hrs : rm.slots = ms) (hR : rm.frames + 1 ≤ R.frames ∧ 8 + (5 + 11) + rm.locals ≤ R.locals) : CallB R s args RL 27 yX7_forget cX7_forget 5 (some .int) [Cond.code yX7_forget cX7_forget 5 (some .int)] rm mc ms 3 ∧ (Cond.instanceMethod yX7_forget).before args s = true ∧ (Cond.selects RX7 yX7_forget yX7_forget).before args s = true := ⟨(kB h tw_606 tw_6 tw_603 (by decide +kernel) hrc hrs hR), h.use args _ tw_604, h.use args _ tw_605⟩
theorem k_X7_X7_isPlan {rm : Room} {mc ms : Nat} (h : TB s) (hrc : rm.cells = mc) (hrs : rm.slots = ms) (hR : rm.frames + 1 ≤ R.frames ∧ 8 + (2 + 11) + rm.locals ≤ R.locals) : CallB R s args RX7 113 yX7_isPlan cX7_isPlan 2 (some .boolean) [Cond.code yX7_isPlan cX7_isPlan 2 (some .boolean)] rm mc ms 1 ∧ (Cond.instanceMethod yX7_isPlan).before args s = true ∧ (Cond.selects RX7 yX7_isPlan yX7_isPlan).before args s = true := ⟨(kB h tw_610 tw_6 tw_607 (by decide +kernel) hrc hrs hR), h.use args _ tw_609, h.use args _ tp_15⟩
theorem k_X7_X7_isRule {rm : Room} {mc ms : Nat} (h : TB s) (hrc : rm.cells = mc) (hrs : rm.slots = ms) (hR : rm.frames + 1 ≤ R.frames ∧ 8 + (2 + 11) + rm.locals ≤ R.locals) : CallB R s args RX7 117 yX7_isRule cX7_isRule 2 (some .boolean) [Cond.code yX7_isRule cX7_isRule 2 (some .boolean)] rm mc ms 1 ∧ (Cond.instanceMethod yX7_isRule).before args s = true ∧ (Cond.selects RX7 yX7_isRule yX7_isRule).before args s = true := ⟨(kB h tw_614 tw_6 tw_611 (by decide +kernel) hrc hrs hR), h.use args _ tw_613, h.use args _ tp_16⟩
theorem k_L_X7_fork {rm : Room} {mc ms : Nat} (h : TB s) (hrc : rm.cells = mc) (hrs : rm.slots = ms) (hR : rm.frames + 1 ≤ R.frames ∧ 8 + (3 + 11) + rm.locals ≤ R.locals) : CallB R s args RL 32 yX7_fork cX7_fork 3 (some .int) [Cond.code yX7_fork cX7_fork 3 (some .int)] rm mc ms 1 ∧ (Cond.instanceMethod yX7_fork).before args s = true ∧ (Cond.selects RX7 yX7_fork yX7_fork).before args s = true := ⟨(kB h tw_618 tw_6 tw_615 (by decide +kernel) hrc hrs hR), h.use args _ tw_616, h.use args _ tw_617⟩
theorem k_L_X7_change {rm : Room} {mc ms : Nat} (h : TB s) (hrc : rm.cells = mc) (hrs : rm.slots = ms) (hR : rm.frames + 1 ≤ R.frames ∧ 8 + (6 + 11) + rm.locals ≤ R.locals) : CallB R s args RL 37 yX7_change cX7_change 6 (some .int) [Cond.code yX7_change cX7_change 6 (some .int)] rm mc ms 4 ∧ (Cond.instanceMethod yX7_change).before args s = true ∧ (Cond.selects RX7 yX7_change yX7_change).before args s = true := ⟨(kB h tw_622 tw_6 tw_619 (by decide +kernel) hrc hrs hR), h.use args _ tw_620, h.use args _ tw_621⟩
theorem k_X7_X7_isFit {rm : Room} {mc ms : Nat} (h : TB s) (hrc : rm.cells = mc) (hrs : rm.slots = ms) (hR : rm.frames + 1 ≤ R.frames ∧ 8 + (6 + 11) + rm.locals ≤ R.locals) : CallB R s args RX7 123 yX7_isFit cX7_isFit 6 (some .boolean) [Cond.code yX7_isFit cX7_isFit 6 (some .boolean)] rm mc ms 4 ∧ (Cond.instanceMethod yX7_isFit).before args s = true ∧ (Cond.selects RX7 yX7_isFit yX7_isFit).before args s = true := ⟨(kB h tw_626 tw_6 tw_623 (by decide +kernel) hrc hrs hR), h.use args _ tw_625, h.use args _ tp_17⟩
theorem k_X7_X7_know {rm : Room} {mc ms : Nat} (h : TB s) (hrc : rm.cells = mc) (hrs : rm.slots = ms) (hR : rm.frames + 1 ≤ R.frames ∧ 8 + (7 + 11) + rm.locals ≤ R.locals) : CallB R s args RX7 127 yX7_know cX7_know 7 none [Cond.code yX7_know cX7_know 7 none] rm mc ms 4 ∧ (Cond.instanceMethod yX7_know).before args s = true ∧ (Cond.selects RX7 yX7_know yX7_know).before args s = true := ⟨(kB h tw_630 tw_6 tw_627 (by decide +kernel) hrc hrs hR), h.use args _ tw_629, h.use args _ tp_18⟩
theorem k_X7_X7_put {rm : Room} {mc ms : Nat} (h : TB s) (hrc : rm.cells = mc) (hrs : rm.slots = ms) (hR : rm.frames + 1 ≤ R.frames ∧ 8 + (5 + 11) + rm.locals ≤ R.locals) : CallB R s args RX7 131 yX7_put cX7_put 5 none [Cond.code yX7_put cX7_put 5 none] rm mc ms 4 ∧ (Cond.instanceMethod yX7_put).before args s = true ∧ (Cond.selects RX7 yX7_put yX7_put).before args s = true := ⟨(kB h tw_634 tw_6 tw_631 (by decide +kernel) hrc hrs hR), h.use args _ tw_633, h.use args _ tp_19⟩
theorem k_X7_X7_findEnds {rm : Room} {mc ms : Nat} (h : TB s) (hrc : rm.cells = mc) (hrs : rm.slots = ms) (hR : rm.frames + 1 ≤ R.frames ∧ 8 + (5 + 11) + rm.locals ≤ R.locals) : CallB R s args RX7 120 yX7_findEnds cX7_findEnds 5 none [Cond.code yX7_findEnds cX7_findEnds 5 none] rm mc ms 1 ∧ (Cond.instanceMethod yX7_findEnds).before args s = true ∧ (Cond.selects RX7 yX7_findEnds yX7_findEnds).before args s = true := ⟨(kB h tw_638 tw_6 tw_635 (by decide +kernel) hrc hrs hR), h.use args _ tw_637, h.use args _ tp_20⟩
theorem k_X7_X7_pairs {rm : Room} {mc ms : Nat} (h : TB s) (hrc : rm.cells = mc) (hrs : rm.slots = ms) (hR : rm.frames + 1 ≤ R.frames ∧ 8 + (7 + 11) + rm.locals ≤ R.locals) : CallB R s args RX7 134 yX7_pairs cX7_pairs 7 (some .int) [Cond.code yX7_pairs cX7_pairs 7 (some .int)] rm mc ms 1 ∧ (Cond.instanceMethod yX7_pairs).before args s = true ∧ (Cond.selects RX7 yX7_pairs yX7_pairs).before args s = true := ⟨(kB h tw_642 tw_6 tw_639 (by decide +kernel) hrc hrs hR), h.use args _ tw_641, h.use args _ tp_21⟩
theorem k_X7_X7_firstFalse {rm : Room} {mc ms : Nat} (h : TB s) (hrc : rm.cells = mc) (hrs : rm.slots = ms) (hR : rm.frames + 1 ≤ R.frames ∧ 8 + (3 + 11) + rm.locals ≤ R.locals) : CallB R s args RX7 141 yX7_firstFalse cX7_firstFalse 3 (some .int) [Cond.code yX7_firstFalse cX7_firstFalse 3 (some .int)] rm mc ms 1 ∧ (Cond.instanceMethod yX7_firstFalse).before args s = true ∧ (Cond.selects RX7 yX7_firstFalse yX7_firstFalse).before args s = true := ⟨(kB h tw_646 tw_6 tw_643 (by decide +kernel) hrc hrs hR), h.use args _ tw_645, h.use args _ tp_22⟩
theorem k_X7_X7_others {rm : Room} {mc ms : Nat} (h : TB s) (hrc : rm.cells = mc) (hrs : rm.slots = ms) (hR : rm.frames + 1 ≤ R.frames ∧ 8 + (4 + 11) + rm.locals ≤ R.locals) : CallB R s args RX7 144 yX7_others cX7_others 4 (some .int) [Cond.code yX7_others cX7_others 4 (some .int)] rm mc ms 1 ∧ (Cond.instanceMethod yX7_others).before args s = true ∧ (Cond.selects RX7 yX7_others yX7_others).before args s = true := ⟨(kB h tw_650 tw_6 tw_647 (by decide +kernel) hrc hrs hR), h.use args _ tw_649, h.use args _ tp_23⟩
theorem k_L_X7_attempt {rm : Room} {mc ms : Nat} (h : TB s) (hrc : rm.cells = mc) (hrs : rm.slots = ms) (hR : rm.frames + 1 ≤ R.frames ∧ 8 + (9 + 11) + rm.locals ≤ R.locals) : CallB R s args RL 42 yX7_attempt cX7_attempt 9 (some .long) [Cond.code yX7_attempt cX7_attempt 9 (some .long)] rm mc ms 5 ∧ (Cond.instanceMethod yX7_attempt).before args s = true ∧ (Cond.selects RX7 yX7_attempt yX7_attempt).before args s = true := ⟨(kB h tw_654 tw_6 tw_651 (by decide +kernel) hrc hrs hR), h.use args _ tw_652, h.use args _ tw_653⟩
theorem k_X7_X7_scoreOf {rm : Room} {mc ms : Nat} (h : TB s) (hrc : rm.cells = mc) (hrs : rm.slots = ms) (hR : rm.frames + 1 ≤ R.frames ∧ 8 + (6 + 11) + rm.locals ≤ R.locals) : CallB R s args RX7 149 yX7_scoreOf cX7_scoreOf 6 (some .long) [Cond.code yX7_scoreOf cX7_scoreOf 6 (some .long)] rm mc ms 2 ∧ (Cond.instanceMethod yX7_scoreOf).before args s = true ∧ (Cond.selects RX7 yX7_scoreOf yX7_scoreOf).before args s = true := ⟨(kB h tw_659 tw_6 tw_656 (by decide +kernel) hrc hrs hR), h.use args _ tw_658, h.use args _ tp_24⟩
theorem k_L_X7_undo {rm : Room} {mc ms : Nat} (h : TB s) (hrc : rm.cells = mc) (hrs : rm.slots = ms) (hR : rm.frames + 1 ≤ R.frames ∧ 8 + (2 + 11) + rm.locals ≤ R.locals) : CallB R s args RL 46 yX7_undo cX7_undo 2 (some .int) [Cond.code yX7_undo cX7_undo 2 (some .int)] rm mc ms 1 ∧ (Cond.instanceMethod yX7_undo).before args s = true ∧ (Cond.selects RX7 yX7_undo yX7_undo).before args s = true := ⟨(kB h tw_663 tw_6 tw_660 (by decide +kernel) hrc hrs hR), h.use args _ tw_661, h.use args _ tw_662⟩
theorem k_X7_X7_takeBack {rm : Room} {mc ms : Nat} (h : TB s) (hrc : rm.cells = mc) (hrs : rm.slots = ms) (hR : rm.frames + 1 ≤ R.frames ∧ 8 + (4 + 11) + rm.locals ≤ R.locals) : CallB R s args RX7 152 yX7_takeBack cX7_takeBack 4 none [Cond.code yX7_takeBack cX7_takeBack 4 none] rm mc ms 1 ∧ (Cond.instanceMethod yX7_takeBack).before args s = true ∧ (Cond.selects RX7 yX7_takeBack yX7_takeBack).before args s = true := ⟨(kB h tw_667 tw_6 tw_664 (by decide +kernel) hrc hrs hR), h.use args _ tw_666, h.use args _ tp_25⟩
theorem k_L_X7_begin {rm : Room} {mc ms : Nat} (h : TB s) (hrc : rm.cells = mc) (hrs : rm.slots = ms) (hR : rm.frames + 1 ≤ R.frames ∧ 8 + (2 + 11) + rm.locals ≤ R.locals) : CallB R s args RL 50 yX7_begin cX7_begin 2 (some .int) [Cond.code yX7_begin cX7_begin 2 (some .int)] rm mc ms 1 ∧ (Cond.instanceMethod yX7_begin).before args s = true ∧ (Cond.selects RX7 yX7_begin yX7_begin).before args s = true := ⟨(kB h tw_671 tw_6 tw_668 (by decide +kernel) hrc hrs hR), h.use args _ tw_669, h.use args _ tw_670⟩
theorem k_L_X7_end {rm : Room} {mc ms : Nat} (h : TB s) (hrc : rm.cells = mc) (hrs : rm.slots = ms) (hR : rm.frames + 1 ≤ R.frames ∧ 8 + (4 + 11) + rm.locals ≤ R.locals) : CallB R s args RL 55 yX7_end cX7_end 4 (some .int) [Cond.code yX7_end cX7_end 4 (some .int)] rm mc ms 2 ∧ (Cond.instanceMethod yX7_end).before args s = true ∧ (Cond.selects RX7 yX7_end yX7_end).before args s = true := ⟨(kB h tw_675 tw_6 tw_672 (by decide +kernel) hrc hrs hR), h.use args _ tw_673, h.use args _ tw_674⟩
theorem k_L_X7_member {rm : Room} {mc ms : Nat} (h : TB s) (hrc : rm.cells = mc) (hrs : rm.slots = ms) (hR : rm.frames + 1 ≤ R.frames ∧ 8 + (4 + 11) + rm.locals ≤ R.locals) : CallB R s args RL 60 yX7_member cX7_member 4 (some .int) [Cond.code yX7_member cX7_member 4 (some .int)] rm mc ms 3 ∧ (Cond.instanceMethod yX7_member).before args s = true ∧ (Cond.selects RX7 yX7_member yX7_member).before args s = true := ⟨(kB h tw_679 tw_6 tw_676 (by decide +kernel) hrc hrs hR), h.use args _ tw_677, h.use args _ tw_678⟩
theorem k_L_X7_score {rm : Room} {mc ms : Nat} (h : TB s) (hrc : rm.cells = mc) (hrs : rm.slots = ms) (hR : rm.frames + 1 ≤ R.frames ∧ 8 + (3 + 11) + rm.locals ≤ R.locals) : CallB R s args RL 65 yX7_score cX7_score 3 (some .long) [Cond.code yX7_score cX7_score 3 (some .long)] rm mc ms 2 ∧ (Cond.instanceMethod yX7_score).before args s = true ∧ (Cond.selects RX7 yX7_score yX7_score).before args s = true := ⟨(kB h tw_683 tw_6 tw_680 (by decide +kernel) hrc hrs hR), h.use args _ tw_681, h.use args _ tw_682⟩
theorem k_L_X7_worth {rm : Room} {mc ms : Nat} (h : TB s) (hrc : rm.cells = mc) (hrs : rm.slots = ms) (hR : rm.frames + 1 ≤ R.frames ∧ 8 + (4 + 11) + rm.locals ≤ R.locals) : CallB R s args RL 70 yX7_worth cX7_worth 4 (some .long) [Cond.code yX7_worth cX7_worth 4 (some .long)] rm mc ms 3 ∧ (Cond.instanceMethod yX7_worth).before args s = true ∧ (Cond.selects RX7 yX7_worth yX7_worth).before args s = true := ⟨(kB h tw_687 tw_6 tw_684 (by decide +kernel) hrc hrs hR), h.use args _ tw_685, h.use args _ tw_686⟩
theorem k_L_X7_check {rm : Room} {mc ms : Nat} (h : TB s) (hrc : rm.cells = mc) (hrs : rm.slots = ms) (hR : rm.frames + 1 ≤ R.frames ∧ 8 + (2 + 11) + rm.locals ≤ R.locals) : CallB R s args RL 74 yX7_check cX7_check 2 (some .int) [Cond.code yX7_check cX7_check 2 (some .int)] rm mc ms 1 ∧ (Cond.instanceMethod yX7_check).before args s = true ∧ (Cond.selects RX7 yX7_check yX7_check).before args s = true := ⟨(kB h tw_691 tw_6 tw_688 (by decide +kernel) hrc hrs hR), h.use args _ tw_689, h.use args _ tw_690⟩
theorem k_L_X7_every {rm : Room} {mc ms : Nat} (h : TB s) (hrc : rm.cells = mc) (hrs : rm.slots = ms) (hR : rm.frames + 1 ≤ R.frames ∧ 8 + (3 + 11) + rm.locals ≤ R.locals) : CallB R s args RL 78 yX7_every cX7_every 3 (some .int) [Cond.code yX7_every cX7_every 3 (some .int)] rm mc ms 1 ∧ (Cond.instanceMethod yX7_every).before args s = true ∧ (Cond.selects RX7 yX7_every yX7_every).before args s = true := ⟨(kB h tw_695 tw_6 tw_692 (by decide +kernel) hrc hrs hR), h.use args _ tw_693, h.use args _ tw_694⟩
theorem k_L_X7_mend {rm : Room} {mc ms : Nat} (h : TB s) (hrc : rm.cells = mc) (hrs : rm.slots = ms) (hR : rm.frames + 1 ≤ R.frames ∧ 8 + (6 + 11) + rm.locals ≤ R.locals) : CallB R s args RL 83 yX7_mend cX7_mend 6 (some .int) [Cond.code yX7_mend cX7_mend 6 (some .int)] rm mc ms 2 ∧ (Cond.instanceMethod yX7_mend).before args s = true ∧ (Cond.selects RX7 yX7_mend yX7_mend).before args s = true := ⟨(kB h tw_699 tw_6 tw_696 (by decide +kernel) hrc hrs hR), h.use args _ tw_697, h.use args _ tw_698⟩
theorem k_L_X7_keep {rm : Room} {mc ms : Nat} (h : TB s) (hrc : rm.cells = mc) (hrs : rm.slots = ms) (hR : rm.frames + 1 ≤ R.frames ∧ 8 + (3 + 11) + rm.locals ≤ R.locals) : CallB R s args RL 87 yX7_keep cX7_keep 3 (some .int) [Cond.code yX7_keep cX7_keep 3 (some .int)] rm mc ms 1 ∧ (Cond.instanceMethod yX7_keep).before args s = true ∧ (Cond.selects RX7 yX7_keep yX7_keep).before args s = true := ⟨(kB h tw_703 tw_6 tw_700 (by decide +kernel) hrc hrs hR), h.use args _ tw_701, h.use args _ tw_702⟩
theorem k_L_X7_kept {rm : Room} {mc ms : Nat} (h : TB s) (hrc : rm.cells = mc) (hrs : rm.slots = ms) (hR : rm.frames + 1 ≤ R.frames ∧ 8 + (3 + 11) + rm.locals ≤ R.locals) : CallB R s args RL 91 yX7_kept cX7_kept 3 (some .long) [Cond.code yX7_kept cX7_kept 3 (some .long)] rm mc ms 2 ∧ (Cond.instanceMethod yX7_kept).before args s = true ∧ (Cond.selects RX7 yX7_kept yX7_kept).before args s = true := ⟨(kB h tw_707 tw_6 tw_704 (by decide +kernel) hrc hrs hR), h.use args _ tw_705, h.use args _ tw_706⟩
theorem k_L_X7_then {rm : Room} {mc ms : Nat} (h : TB s) (hrc : rm.cells = mc) (hrs : rm.slots = ms) (hR : rm.frames + 1 ≤ R.frames ∧ 8 + (4 + 11) + rm.locals ≤ R.locals) : CallB R s args RL 95 yX7_then cX7_then 4 (some .int) [Cond.code yX7_then cX7_then 4 (some .int)] rm mc ms 3 ∧ (Cond.instanceMethod yX7_then).before args s = true ∧ (Cond.selects RX7 yX7_then yX7_then).before args s = true := ⟨(kB h tw_711 tw_6 tw_708 (by decide +kernel) hrc hrs hR), h.use args _ tw_709, h.use args _ tw_710⟩
theorem k_L_X7_told {rm : Room} {mc ms : Nat} (h : TB s) (hrc : rm.cells = mc) (hrs : rm.slots = ms) (hR : rm.frames + 1 ≤ R.frames ∧ 8 + (5 + 11) + rm.locals ≤ R.locals) : CallB R s args RL 99 yX7_told cX7_told 5 (some .int) [Cond.code yX7_told cX7_told 5 (some .int)] rm mc ms 2 ∧ (Cond.instanceMethod yX7_told).before args s = true ∧ (Cond.selects RX7 yX7_told yX7_told).before args s = true := ⟨(kB h tw_715 tw_6 tw_712 (by decide +kernel) hrc hrs hR), h.use args _ tw_713, h.use args _ tw_714⟩
theorem k_L_X7_all {rm : Room} {mc ms : Nat} (h : TB s) (hrc : rm.cells = mc) (hrs : rm.slots = ms) (hR : rm.frames + 1 ≤ R.frames ∧ 8 + (2 + 11) + rm.locals ≤ R.locals) : CallB R s args RL 103 yX7_all cX7_all 2 (some .int) [Cond.code yX7_all cX7_all 2 (some .int)] rm mc ms 1 ∧ (Cond.instanceMethod yX7_all).before args s = true ∧ (Cond.selects RX7 yX7_all yX7_all).before args s = true := ⟨(kB h tw_719 tw_6 tw_716 (by decide +kernel) hrc hrs hR), h.use args _ tw_717, h.use args _ tw_718⟩
theorem n_L_X6 (hx : p.tables.exec = Jvm.exec) (hb : c.code = cc) (hown : s.vm.findClass RL = some m.cls) (hK : KB D cy s) (hW : HW D z0 ad V H) (hS : va_S (AA z0) H0 H locs) (hz : z0 ≤ H0.size) (M : Nat) (hM : V M = none) (hcells : cells + 1 ≤ R.cells) (hslots : slots + 6 ≤ R.slots) (hdg : decode cc pc = .ok (.new 7, 3))
    (kk : ∀ (q : Nat) (H1 : Heap), HW D z0 (va_up ad M q) (va_up V M (some (.inr (6, [.null, .null, .null, .int 0, .int 0, .int 0])))) H1 → va_S (AA z0) H0 H1 locs → W p l e R s m args below meth c H1 locs (cells + 1) (slots + 6) Q (F0 m (pc + 3) ls (.ref q :: rest))) : W p l e R s m args below meth c H locs cells slots Q (F0 m pc ls rest) := by
  obtain ⟨ws, hP, hD, hnew⟩ := hW.nw
  exact va_new (ci := 6) (fs := [.null, .null, .null, .int 0, .int 0, .int 0]) (C := RX6) (T := TX6) (N := 6) hx hb (hK.1.use args) inT6 tyX6 tyX6_ok hown (hK.1.use args _ tw_11) (hK.1.use args _ tw_12) (hK.1.use args _ tw_1) hK.2 hP hD hS (fun q h => Nat.le_trans hz h) rfl (fun j hj => by
    have h9 : j ∈ List.range 6 := List.mem_range.mpr hj
    revert j
    exact fun j _ h9 => (show ∀ j ∈ List.range 6, defaultValue (tyX6 j) = vp_V [.null, .null, .null, .int 0, .int 0, .int 0] j by decide) j h9) hcells hslots hdg (fun q H1 hP1 hD1 hS1 => kk q H1 (hnew M q _ H1 hM hP1 hD1) hS1)
theorem n_X6_X3 (hx : p.tables.exec = Jvm.exec) (hb : c.code = cc) (hown : s.vm.findClass RX6 = some m.cls) (hK : KB D cy s) (hW : HW D z0 ad V H) (hS : va_S (AA z0) H0 H locs) (hz : z0 ≤ H0.size) (M : Nat) (hM : V M = none) (hcells : cells + 1 ≤ R.cells) (hslots : slots + 2 ≤ R.slots) (hdg : decode cc pc = .ok (.new 7, 3))
    (kk : ∀ (q : Nat) (H1 : Heap), HW D z0 (va_up ad M q) (va_up V M (some (.inr (3, [.null, .int 0])))) H1 → va_S (AA z0) H0 H1 locs → W p l e R s m args below meth c H1 locs (cells + 1) (slots + 2) Q (F0 m (pc + 3) ls (.ref q :: rest))) : W p l e R s m args below meth c H locs cells slots Q (F0 m pc ls rest) := by
  obtain ⟨ws, hP, hD, hnew⟩ := hW.nw
  exact va_new (ci := 3) (fs := [.null, .int 0]) (C := RX3) (T := TX3) (N := 2) hx hb (hK.1.use args) inT3 tyX3 tyX3_ok hown (hK.1.use args _ tw_19) (hK.1.use args _ tw_20) (hK.1.use args _ tw_2) hK.2 hP hD hS (fun q h => Nat.le_trans hz h) rfl (fun j hj => by
    have h9 : j ∈ List.range 2 := List.mem_range.mpr hj
    revert j
    exact fun j _ h9 => (show ∀ j ∈ List.range 2, defaultValue (tyX3 j) = vp_V [.null, .int 0] j by decide) j h9) hcells hslots hdg (fun q H1 hP1 hD1 hS1 => kk q H1 (hnew M q _ H1 hM hP1 hD1) hS1)
theorem n_X3_X2 (hx : p.tables.exec = Jvm.exec) (hb : c.code = cc) (hown : s.vm.findClass RX3 = some m.cls) (hK : KB D cy s) (hW : HW D z0 ad V H) (hS : va_S (AA z0) H0 H locs) (hz : z0 ≤ H0.size) (M : Nat) (hM : V M = none) (hcells : cells + 1 ≤ R.cells) (hslots : slots + 5 ≤ R.slots) (hdg : decode cc pc = .ok (.new 9, 3))
    (kk : ∀ (q : Nat) (H1 : Heap), HW D z0 (va_up ad M q) (va_up V M (some (.inr (2, [.int 0, .int 0, .int 0, .int 0, .int 0])))) H1 → va_S (AA z0) H0 H1 locs → W p l e R s m args below meth c H1 locs (cells + 1) (slots + 5) Q (F0 m (pc + 3) ls (.ref q :: rest))) : W p l e R s m args below meth c H locs cells slots Q (F0 m pc ls rest) := by
  obtain ⟨ws, hP, hD, hnew⟩ := hW.nw
  exact va_new (ci := 2) (fs := [.int 0, .int 0, .int 0, .int 0, .int 0]) (C := RX2) (T := TX2) (N := 5) hx hb (hK.1.use args) inT2 tyX2 tyX2_ok hown (hK.1.use args _ tw_25) (hK.1.use args _ tw_197) (hK.1.use args _ tw_9) hK.2 hP hD hS (fun q h => Nat.le_trans hz h) rfl (fun j hj => by
    have h9 : j ∈ List.range 5 := List.mem_range.mpr hj
    revert j
    exact fun j _ h9 => (show ∀ j ∈ List.range 5, defaultValue (tyX2 j) = vp_V [.int 0, .int 0, .int 0, .int 0, .int 0] j by decide) j h9) hcells hslots hdg (fun q H1 hP1 hD1 hS1 => kk q H1 (hnew M q _ H1 hM hP1 hD1) hS1)
theorem n_X6_X1 (hx : p.tables.exec = Jvm.exec) (hb : c.code = cc) (hown : s.vm.findClass RX6 = some m.cls) (hK : KB D cy s) (hW : HW D z0 ad V H) (hS : va_S (AA z0) H0 H locs) (hz : z0 ≤ H0.size) (M : Nat) (hM : V M = none) (hcells : cells + 1 ≤ R.cells) (hslots : slots + 11 ≤ R.slots) (hdg : decode cc pc = .ok (.new 16, 3))
    (kk : ∀ (q : Nat) (H1 : Heap), HW D z0 (va_up ad M q) (va_up V M (some (.inr (1, [.null, .null, .null, .null, .null, .null, .int 0, .int 0, .int 0, .int 0, .int 0])))) H1 → va_S (AA z0) H0 H1 locs → W p l e R s m args below meth c H1 locs (cells + 1) (slots + 11) Q (F0 m (pc + 3) ls (.ref q :: rest))) : W p l e R s m args below meth c H locs cells slots Q (F0 m pc ls rest) := by
  obtain ⟨ws, hP, hD, hnew⟩ := hW.nw
  exact va_new (ci := 1) (fs := [.null, .null, .null, .null, .null, .null, .int 0, .int 0, .int 0, .int 0, .int 0]) (C := RX1) (T := TX1) (N := 11) hx hb (hK.1.use args) inT1 tyX1 tyX1_ok hown (hK.1.use args _ tw_37) (hK.1.use args _ tw_39) (hK.1.use args _ tw_3) hK.2 hP hD hS (fun q h => Nat.le_trans hz h) rfl (fun j hj => by
    have h9 : j ∈ List.range 11 := List.mem_range.mpr hj
    revert j
    exact fun j _ h9 => (show ∀ j ∈ List.range 11, defaultValue (tyX1 j) = vp_V [.null, .null, .null, .null, .null, .null, .int 0, .int 0, .int 0, .int 0, .int 0] j by decide) j h9) hcells hslots hdg (fun q H1 hP1 hD1 hS1 => kk q H1 (hnew M q _ H1 hM hP1 hD1) hS1)
theorem n_X1_X5 (hx : p.tables.exec = Jvm.exec) (hb : c.code = cc) (hown : s.vm.findClass RX1 = some m.cls) (hK : KB D cy s) (hW : HW D z0 ad V H) (hS : va_S (AA z0) H0 H locs) (hz : z0 ≤ H0.size) (M : Nat) (hM : V M = none) (hcells : cells + 1 ≤ R.cells) (hslots : slots + 2 ≤ R.slots) (hdg : decode cc pc = .ok (.new 9, 3))
    (kk : ∀ (q : Nat) (H1 : Heap), HW D z0 (va_up ad M q) (va_up V M (some (.inr (5, [.null, .int 0])))) H1 → va_S (AA z0) H0 H1 locs → W p l e R s m args below meth c H1 locs (cells + 1) (slots + 2) Q (F0 m (pc + 3) ls (.ref q :: rest))) : W p l e R s m args below meth c H locs cells slots Q (F0 m pc ls rest) := by
  obtain ⟨ws, hP, hD, hnew⟩ := hW.nw
  exact va_new (ci := 5) (fs := [.null, .int 0]) (C := RX5) (T := TX5) (N := 2) hx hb (hK.1.use args) inT5 tyX5 tyX5_ok hown (hK.1.use args _ tw_44) (hK.1.use args _ tw_45) (hK.1.use args _ tw_4) hK.2 hP hD hS (fun q h => Nat.le_trans hz h) rfl (fun j hj => by
    have h9 : j ∈ List.range 2 := List.mem_range.mpr hj
    revert j
    exact fun j _ h9 => (show ∀ j ∈ List.range 2, defaultValue (tyX5 j) = vp_V [.null, .int 0] j by decide) j h9) hcells hslots hdg (fun q H1 hP1 hD1 hS1 => kk q H1 (hnew M q _ H1 hM hP1 hD1) hS1)
theorem n_X1_X0 (hx : p.tables.exec = Jvm.exec) (hb : c.code = cc) (hown : s.vm.findClass RX1 = some m.cls) (hK : KB D cy s) (hW : HW D z0 ad V H) (hS : va_S (AA z0) H0 H locs) (hz : z0 ≤ H0.size) (M : Nat) (hM : V M = none) (hcells : cells + 1 ≤ R.cells) (hslots : slots + 6 ≤ R.slots) (hdg : decode cc pc = .ok (.new 29, 3))
    (kk : ∀ (q : Nat) (H1 : Heap), HW D z0 (va_up ad M q) (va_up V M (some (.inr (0, [.null, .null, .null, .null, .int 0, .int 0])))) H1 → va_S (AA z0) H0 H1 locs → W p l e R s m args below meth c H1 locs (cells + 1) (slots + 6) Q (F0 m (pc + 3) ls (.ref q :: rest))) : W p l e R s m args below meth c H locs cells slots Q (F0 m pc ls rest) := by
  obtain ⟨ws, hP, hD, hnew⟩ := hW.nw
  exact va_new (ci := 0) (fs := [.null, .null, .null, .null, .int 0, .int 0]) (C := RX0) (T := TX0) (N := 6) hx hb (hK.1.use args) inT0 tyX0 tyX0_ok hown (hK.1.use args _ tw_65) (hK.1.use args _ tw_66) (hK.1.use args _ tw_5) hK.2 hP hD hS (fun q h => Nat.le_trans hz h) rfl (fun j hj => by
    have h9 : j ∈ List.range 6 := List.mem_range.mpr hj
    revert j
    exact fun j _ h9 => (show ∀ j ∈ List.range 6, defaultValue (tyX0 j) = vp_V [.null, .null, .null, .null, .int 0, .int 0] j by decide) j h9) hcells hslots hdg (fun q H1 hP1 hD1 hS1 => kk q H1 (hnew M q _ H1 hM hP1 hD1) hS1)
theorem n_X6_X4 (hx : p.tables.exec = Jvm.exec) (hb : c.code = cc) (hown : s.vm.findClass RX6 = some m.cls) (hK : KB D cy s) (hW : HW D z0 ad V H) (hS : va_S (AA z0) H0 H locs) (hz : z0 ≤ H0.size) (M : Nat) (hM : V M = none) (hcells : cells + 1 ≤ R.cells) (hslots : slots + 2 ≤ R.slots) (hdg : decode cc pc = .ok (.new 29, 3))
    (kk : ∀ (q : Nat) (H1 : Heap), HW D z0 (va_up ad M q) (va_up V M (some (.inr (4, [.null, .null])))) H1 → va_S (AA z0) H0 H1 locs → W p l e R s m args below meth c H1 locs (cells + 1) (slots + 2) Q (F0 m (pc + 3) ls (.ref q :: rest))) : W p l e R s m args below meth c H locs cells slots Q (F0 m pc ls rest) := by
  obtain ⟨ws, hP, hD, hnew⟩ := hW.nw
  exact va_new (ci := 4) (fs := [.null, .null]) (C := RX4) (T := TX4) (N := 2) hx hb (hK.1.use args) inT4 tyX4 tyX4_ok hown (hK.1.use args _ tw_142) (hK.1.use args _ tw_436) (hK.1.use args _ tw_10) hK.2 hP hD hS (fun q h => Nat.le_trans hz h) rfl (fun j hj => by
    have h9 : j ∈ List.range 2 := List.mem_range.mpr hj
    revert j
    exact fun j _ h9 => (show ∀ j ∈ List.range 2, defaultValue (tyX4 j) = vp_V [.null, .null] j by decide) j h9) hcells hslots hdg (fun q H1 hP1 hD1 hS1 => kk q H1 (hnew M q _ H1 hM hP1 hD1) hS1)
theorem n_X6_X2 (hx : p.tables.exec = Jvm.exec) (hb : c.code = cc) (hown : s.vm.findClass RX6 = some m.cls) (hK : KB D cy s) (hW : HW D z0 ad V H) (hS : va_S (AA z0) H0 H locs) (hz : z0 ≤ H0.size) (M : Nat) (hM : V M = none) (hcells : cells + 1 ≤ R.cells) (hslots : slots + 5 ≤ R.slots) (hdg : decode cc pc = .ok (.new 59, 3))
    (kk : ∀ (q : Nat) (H1 : Heap), HW D z0 (va_up ad M q) (va_up V M (some (.inr (2, [.int 0, .int 0, .int 0, .int 0, .int 0])))) H1 → va_S (AA z0) H0 H1 locs → W p l e R s m args below meth c H1 locs (cells + 1) (slots + 5) Q (F0 m (pc + 3) ls (.ref q :: rest))) : W p l e R s m args below meth c H locs cells slots Q (F0 m pc ls rest) := by
  obtain ⟨ws, hP, hD, hnew⟩ := hW.nw
  exact va_new (ci := 2) (fs := [.int 0, .int 0, .int 0, .int 0, .int 0]) (C := RX2) (T := TX2) (N := 5) hx hb (hK.1.use args) inT2 tyX2 tyX2_ok hown (hK.1.use args _ tw_246) (hK.1.use args _ tw_197) (hK.1.use args _ tw_9) hK.2 hP hD hS (fun q h => Nat.le_trans hz h) rfl (fun j hj => by
    have h9 : j ∈ List.range 5 := List.mem_range.mpr hj
    revert j
    exact fun j _ h9 => (show ∀ j ∈ List.range 5, defaultValue (tyX2 j) = vp_V [.int 0, .int 0, .int 0, .int 0, .int 0] j by decide) j h9) hcells hslots hdg (fun q H1 hP1 hD1 hS1 => kk q H1 (hnew M q _ H1 hM hP1 hD1) hS1)
theorem n_X4_X5 (hx : p.tables.exec = Jvm.exec) (hb : c.code = cc) (hown : s.vm.findClass RX4 = some m.cls) (hK : KB D cy s) (hW : HW D z0 ad V H) (hS : va_S (AA z0) H0 H locs) (hz : z0 ≤ H0.size) (M : Nat) (hM : V M = none) (hcells : cells + 1 ≤ R.cells) (hslots : slots + 2 ≤ R.slots) (hdg : decode cc pc = .ok (.new 9, 3))
    (kk : ∀ (q : Nat) (H1 : Heap), HW D z0 (va_up ad M q) (va_up V M (some (.inr (5, [.null, .int 0])))) H1 → va_S (AA z0) H0 H1 locs → W p l e R s m args below meth c H1 locs (cells + 1) (slots + 2) Q (F0 m (pc + 3) ls (.ref q :: rest))) : W p l e R s m args below meth c H locs cells slots Q (F0 m pc ls rest) := by
  obtain ⟨ws, hP, hD, hnew⟩ := hW.nw
  exact va_new (ci := 5) (fs := [.null, .int 0]) (C := RX5) (T := TX5) (N := 2) hx hb (hK.1.use args) inT5 tyX5 tyX5_ok hown (hK.1.use args _ tw_441) (hK.1.use args _ tw_45) (hK.1.use args _ tw_4) hK.2 hP hD hS (fun q h => Nat.le_trans hz h) rfl (fun j hj => by
    have h9 : j ∈ List.range 2 := List.mem_range.mpr hj
    revert j
    exact fun j _ h9 => (show ∀ j ∈ List.range 2, defaultValue (tyX5 j) = vp_V [.null, .int 0] j by decide) j h9) hcells hslots hdg (fun q H1 hP1 hD1 hS1 => kk q H1 (hnew M q _ H1 hM hP1 hD1) hS1)
theorem n_L_X7 (hx : p.tables.exec = Jvm.exec) (hb : c.code = cc) (hown : s.vm.findClass RL = some m.cls) (hK : KB D cy s) (hW : HW D z0 ad V H) (hS : va_S (AA z0) H0 H locs) (hz : z0 ≤ H0.size) (M : Nat) (hM : V M = none) (hcells : cells + 1 ≤ R.cells) (hslots : slots + 28 ≤ R.slots) (hdg : decode cc pc = .ok (.new 10, 3))
    (kk : ∀ (q : Nat) (H1 : Heap), HW D z0 (va_up ad M q) (va_up V M (some (.inr (7, [.int 0, .int 0, .null, .null, .null, .null, .null, .int 0, .null, .null, .null, .null, .null, .null, .null, .null, .null, .null, .null, .null, .null, .int 0, .int 0, .null, .null, .null, .null, .null])))) H1 → va_S (AA z0) H0 H1 locs → W p l e R s m args below meth c H1 locs (cells + 1) (slots + 28) Q (F0 m (pc + 3) ls (.ref q :: rest))) : W p l e R s m args below meth c H locs cells slots Q (F0 m pc ls rest) := by
  obtain ⟨ws, hP, hD, hnew⟩ := hW.nw
  exact va_new (ci := 7) (fs := [.int 0, .int 0, .null, .null, .null, .null, .null, .int 0, .null, .null, .null, .null, .null, .null, .null, .null, .null, .null, .null, .null, .null, .int 0, .int 0, .null, .null, .null, .null, .null]) (C := RX7) (T := TX7) (N := 28) hx hb (hK.1.use args) inT7 tyX7 tyX7_ok hown (hK.1.use args _ tw_483) (hK.1.use args _ tw_484) (hK.1.use args _ tw_6) hK.2 hP hD hS (fun q h => Nat.le_trans hz h) rfl (fun j hj => by
    have h9 : j ∈ List.range 28 := List.mem_range.mpr hj
    revert j
    exact fun j _ h9 => (show ∀ j ∈ List.range 28, defaultValue (tyX7 j) = vp_V [.int 0, .int 0, .null, .null, .null, .null, .null, .int 0, .null, .null, .null, .null, .null, .null, .null, .null, .null, .null, .null, .null, .null, .int 0, .int 0, .null, .null, .null, .null, .null] j by decide) j h9) hcells hslots hdg (fun q H1 hP1 hD1 hS1 => kk q H1 (hnew M q _ H1 hM hP1 hD1) hS1)
end LK
end
section
/-! a contract's start, and its ends -/
theorem met_of {l : Launch} {y : MethodName} {cc : ByteArray} {maxL : Nat} {ret : Option FieldType} {rm : Room} {As : List Value} {D : va_G} {cy : Nat → ClassId} {z0 : Nat} {ad : Nat → Nat} {V : Nat → Option va_E} {Qc : Array Value → State → Outcome → State → Prop} {mc ms : Nat} {free : Addr → Prop} (hy : plainName y.cls = true) (hlen : (lg_sl As).length ≤ maxL)
    (body : ∀ (p : Program) (e : Env) (s : State) (m : MethodId) (below : List Frame) (meth : Method) (c : Code), p.tables.exec = Jvm.exec → c.code = cc → meth.sig.returnType = ret → c.maxLocals = maxL → s.vm.findClass y.cls = some m.cls → meth.locks = false → meth.name = y.name → KB D cy s → z0 ≤ s.heap.size → HW D z0 ad V s.heap → ∀ ls : Array Slot, lv_has ls maxL (lv_args 0 As) → W p l e rm s m As.toArray below meth c s.heap [] 0 0 (MQ below Qc As.toArray s mc ms free) (F0 m 0 ls [])) :
    Met l y [Cond.code y cc maxL ret] rm (WP As D cy z0 ad V) Qc mc ms free := by
  refine Met.ofW (cc := cc) (maxL := maxL) (ret := ret) hy rfl ?_
  intro p e s m args below meth c s₁ B hml hv
  obtain ⟨rfl, hK, hz, hW⟩ := hv
  have hl := lv_entry As (n := maxL) hlen
  rw [lg_entry_eq]
  exact body p e s m below meth c B.exec B.bytes B.returns hml (findClass_of_methodNamed B.named) B.notSynchronized (name_of_methodNamed B.named B.method).1 hK hz hW _ hl
section EN
variable {p : Program} {l : Launch} {e : Env} {R : Room} {s : State} {m : MethodId} {args : Array Value} {below : List Frame} {meth : Method} {c : Code} {H : Heap} {locs : List Loc} {cells slots : Nat} {Q : State → Prop}
variable {cc : ByteArray} {pc : Nat} {ls : Array Slot} {D : va_G} {z0 : Nat} {ad : Nat → Nat} {V : Nat → Option va_E}
theorem ri {post : Int32 → Prop} {v : Int32} (hx : p.tables.exec = Jvm.exec) (hb : c.code = cc) (hr : meth.sig.returnType = some .int) (hlocks : meth.locks = false) (hdg : decode cc pc = .ok (.ireturn, 1)) (hp : post v) : W p l e R s m args below meth c s.heap [] 0 0 (MQ below (vp_Si post) args s 0 0 (fun _ => False)) (F0 m pc ls [.int v]) :=
  W.iret hx hb hr (fun _ ht _ => ⟨v, rfl, hp, ht⟩) (fun _ h => by cases h) hdg hlocks
theorem rz {post : Int32 → Prop} {v : Int32} (hx : p.tables.exec = Jvm.exec) (hb : c.code = cc) (hr : meth.sig.returnType = some .boolean) (hlocks : meth.locks = false) (hdg : decode cc pc = .ok (.ireturn, 1)) (hn : narrow .boolean (.int v) = .int v) (hp : post v) : W p l e R s m args below meth c s.heap [] 0 0 (MQ below (vp_Si post) args s 0 0 (fun _ => False)) (F0 m pc ls [.int v]) :=
  W.zret hx hb hr hn (fun _ ht _ => ⟨v, rfl, hp, ht⟩) (fun _ h => by cases h) hdg hlocks
theorem rl {post : Int64 → Prop} {v : Int64} (hx : p.tables.exec = Jvm.exec) (hb : c.code = cc) (hr : meth.sig.returnType = some .long) (hlocks : meth.locks = false) (hdg : decode cc pc = .ok (.lreturn, 1)) (hp : post v) : W p l e R s m args below meth c s.heap [] 0 0 (MQ below (vp_Sl post) args s 0 0 (fun _ => False)) (F0 m pc ls [.long v]) :=
  W.lret hx hb hr (fun _ ht _ => ⟨v, rfl, hp, ht⟩) (fun _ h => by cases h) hdg hlocks
theorem rwi {post : Int32 → Wd → Prop} {v : Int32} (hx : p.tables.exec = Jvm.exec) (hb : c.code = cc) (hr : meth.sig.returnType = some .int) (hlocks : meth.locks = false) (hdg : decode cc pc = .ok (.ireturn, 1)) (hW : HW D z0 ad V H) (hS : va_S (AA z0) s.heap H locs) (hp : post v (ad, V)) : W p l e R s m args below meth c H locs cells slots (MQ below (va_Qi post (WB D z0) (AA z0)) args s cells slots (AA z0)) (F0 m pc ls [.int v]) :=
  W.iret hx hb hr (fun t ht _ => ⟨⟨v, (ad, V), rfl, hp, by unfold WB; rw [ht]; exact hW⟩, hS.F ht⟩) hS.2.2 hdg hlocks
theorem rwl {post : Int64 → Wd → Prop} {v : Int64} (hx : p.tables.exec = Jvm.exec) (hb : c.code = cc) (hr : meth.sig.returnType = some .long) (hlocks : meth.locks = false) (hdg : decode cc pc = .ok (.lreturn, 1)) (hW : HW D z0 ad V H) (hS : va_S (AA z0) s.heap H locs) (hp : post v (ad, V)) : W p l e R s m args below meth c H locs cells slots (MQ below (va_Ql post (WB D z0) (AA z0)) args s cells slots (AA z0)) (F0 m pc ls [.long v]) :=
  W.lret hx hb hr (fun t ht _ => ⟨⟨v, (ad, V), rfl, hp, by unfold WB; rw [ht]; exact hW⟩, hS.F ht⟩) hS.2.2 hdg hlocks
theorem rwv {post : Wd → Prop} (hx : p.tables.exec = Jvm.exec) (hb : c.code = cc) (hr : meth.sig.returnType = none) (hlocks : meth.locks = false) (hdg : decode cc pc = .ok (.return_, 1)) (hW : HW D z0 ad V H) (hS : va_S (AA z0) s.heap H locs) (hp : post (ad, V)) : W p l e R s m args below meth c H locs cells slots (MQ below (va_Qv post (WB D z0) (AA z0)) args s cells slots (AA z0)) (F0 m pc ls []) :=
  W.vret hx hb hr (fun t ht _ => ⟨⟨(ad, V), rfl, hp, by unfold WB; rw [ht]; exact hW⟩, hS.F ht⟩) hS.2.2 hdg hlocks
end EN
end
section
/-! joins, loops, named tops; truth values as numbers -/
def b2i (b : Bool) : Int32 := if b then 1 else 0
theorem b2i_0 {b : Bool} : b2i b = 0 ↔ b = false := by cases b <;> simp [b2i]
theorem b2i_1 {b : Bool} : ¬ b2i b = 0 ↔ b = true := by cases b <;> simp [b2i]
theorem b2i_n {b : Bool} : narrow .boolean (.int (b2i b)) = .int (b2i b) := by cases b <;> rfl
theorem b2i_v {b : Bool} : vp_nar .boolean (b2i b) = b2i b := by cases b <;> rfl
theorem b2i_f {b : Bool} : fits .boolean (.int (b2i b)) = true := by cases b <;> rfl
theorem b2i_t : b2i true = 1 := rfl
theorem b2i_ff : b2i false = 0 := rfl
theorem b2i_inj {a b : Bool} (h : b2i a = b2i b) : a = b := by cases a <;> cases b <;> simp_all [b2i]
section WK
variable {p : Program} {l : Launch} {e : Env} {R : Room} {s : State} {m : MethodId} {args : Array Value} {below : List Frame} {meth : Method} {c : Code} {H : Heap} {locs : List Loc} {cells slots : Nat} {Q : State → Prop}
variable {pc : Nat} {ls : Array Slot} {rest : List Value}
theorem jn {g : JFrame} (g2 : JFrame) (k : W p l e R s m args below meth c H locs cells slots Q g2 → W p l e R s m args below meth c H locs cells slots Q g) (h : W p l e R s m args below meth c H locs cells slots Q g2) : W p l e R s m args below meth c H locs cells slots Q g := k h
theorem asi {x y : Int32} (h : x = y) (k : W p l e R s m args below meth c H locs cells slots Q (F0 m pc ls (.int y :: rest))) : W p l e R s m args below meth c H locs cells slots Q (F0 m pc ls (.int x :: rest)) := h ▸ k
theorem asl {x y : Int64} (h : x = y) (k : W p l e R s m args below meth c H locs cells slots Q (F0 m pc ls (.long y :: rest))) : W p l e R s m args below meth c H locs cells slots Q (F0 m pc ls (.long x :: rest)) := h ▸ k
theorem asv {x y : Value} (h : x = y) (k : W p l e R s m args below meth c H locs cells slots Q (F0 m pc ls (y :: rest))) : W p l e R s m args below meth c H locs cells slots Q (F0 m pc ls (x :: rest)) := h ▸ k
theorem wl {ι : Type} (μ : ι → Nat) (I : ι → JFrame → Prop) (step : ∀ i g, I i g → (∀ j g', I j g' → μ j < μ i → W p l e R s m args below meth c H locs cells slots Q g') → W p l e R s m args below meth c H locs cells slots Q g) (i : ι) (g : JFrame) (h : I i g) : W p l e R s m args below meth c H locs cells slots Q g := by
  have key : ∀ n i g, μ i < n → I i g → W p l e R s m args below meth c H locs cells slots Q g := by
    intro n
    induction n with
    | zero => intro i g h; exact absurd h (Nat.not_lt_zero _)
    | succ n ih => intro i g hn hI; exact step i g hI (fun j g' hj hlt => ih j g' (by omega) hj)
  exact key _ i g (Nat.lt_succ_self _) h
theorem wlh {ι : Type} (μ : ι → Nat) (I : ι → Heap → List Loc → JFrame → Prop) (step : ∀ i H locs g, I i H locs g → (∀ j H' locs' g', I j H' locs' g' → μ j < μ i → W p l e R s m args below meth c H' locs' cells slots Q g') → W p l e R s m args below meth c H locs cells slots Q g) (i : ι) (H : Heap) (locs : List Loc) (g : JFrame) (h : I i H locs g) : W p l e R s m args below meth c H locs cells slots Q g := by
  have key : ∀ n i H locs g, μ i < n → I i H locs g → W p l e R s m args below meth c H locs cells slots Q g := by
    intro n
    induction n with
    | zero => intro i H locs g h; exact absurd h (Nat.not_lt_zero _)
    | succ n ih => intro i H locs g hn hI; exact step i H locs g hI (fun j H' locs' g' hj hlt => ih j H' locs' g' (by omega) hj)
  exact key _ i H locs g (Nat.lt_succ_self _) h
end WK
theorem nI_le' {a b : Nat} (h : nI a ≤ nI b) (ha : a < 2 ^ 31) (hb : b < 2 ^ 31) : a ≤ b := (nI_leI ha hb).mp h
theorem nI_lt' {a b : Nat} (h : nI a < nI b) (ha : a < 2 ^ 31) (hb : b < 2 ^ 31) : a < b := (nI_ltI ha hb).mp h
theorem nI_eq' {a b : Nat} (h : nI a = nI b) (ha : a < 2 ^ 31) (hb : b < 2 ^ 31) : a = b := (nI_eq ha hb).mp h
theorem nI_nle' {a b : Nat} (h : ¬ nI a ≤ nI b) (ha : a < 2 ^ 31) (hb : b < 2 ^ 31) : b < a := Nat.lt_of_not_le (fun q => h ((nI_leI ha hb).mpr q))
theorem nI_nlt' {a b : Nat} (h : ¬ nI a < nI b) (ha : a < 2 ^ 31) (hb : b < 2 ^ 31) : b ≤ a := Nat.le_of_not_lt (fun q => h ((nI_ltI ha hb).mpr q))
theorem nI_ne' {a b : Nat} (h : ¬ nI a = nI b) (ha : a < 2 ^ 31) (hb : b < 2 ^ 31) : a ≠ b := fun q => h ((nI_eq ha hb).mpr q)
section WJ
variable {p : Program} {l : Launch} {e : Env} {R : Room} {s : State} {m : MethodId} {args : Array Value} {below : List Frame} {meth : Method} {c : Code} {H : Heap} {locs : List Loc} {cells slots : Nat} {Q : State → Prop}
theorem jl {g : JFrame} {pcj nL : Nat} {st : List Value} {lv : List (Nat × Value)} (k : (∀ ls : Array Slot, lv_has ls nL lv → W p l e R s m args below meth c H locs cells slots Q (F0 m pcj ls st)) → W p l e R s m args below meth c H locs cells slots Q g) (h : ∀ ls : Array Slot, lv_has ls nL lv → W p l e R s m args below meth c H locs cells slots Q (F0 m pcj ls st)) : W p l e R s m args below meth c H locs cells slots Q g := k h
end WJ
end
section
/-! what is reckoned, as functions -/
def sumL (f : Nat → Int32) : Nat → Int64
  | 0 => 0
  | k + 1 => sumL f k + (f k).toInt64
def cnt (f : Nat → Int32) (x : Int32) (a : Nat) : Nat → Nat
  | 0 => 0
  | k + 1 => cnt f x a k + (if f (a + k) = x then 1 else 0)
def eaL (f : Nat → Int32) (c : Int32) : Nat → Int64
  | 0 => 0
  | k + 1 => eaL f c k + (if nI 0 < f k - c then f k - c else nI 0).toInt64
def epL (f : Nat → Int32) : Nat → Int64
  | 0 => 0
  | k + 1 => epL f k + (nI (cnt f (f k) 0 k)).toInt64
/-- c: what is allowed; n: how many objects there are -/
def crL (f : Nat → Int32) (c : Int32) (n : Nat) : Nat → Int64
  | 0 => 0
  | k + 1 => crL f c n k + (if cnt f (f k) 0 k = 0 then (if nI 0 < nI (cnt f (f k) k (n - k)) - c then nI (cnt f (f k) k (n - k)) - c else nI 0).toInt64 else 0)
def hasB (n : Nat) (x : Int32) : Bool := decide (¬ x < 0) && decide (¬ nI n ≤ x)
theorem hasB_of {n : Nat} {x : Int32} (h : hasB n x = true) (hn : n < 2147483648) : x = nI x.toNatClampNeg ∧ x.toNatClampNeg < n := by
  simp only [hasB, Bool.and_eq_true, decide_eq_true_eq] at h
  obtain ⟨j, hj, e⟩ := nI_of h.1
  have hc : x.toNatClampNeg = j := by rw [e]; exact nI_clamp hj
  rw [hc]
  refine ⟨e, ?_⟩
  have h2 := h.2
  rw [e] at h2
  exact nI_nle' h2 (by omega) hj
theorem hasB_nI {n j : Nat} (hn : n < 2147483648) (hj : j < 2147483648) : hasB n (nI j) = decide (j < n) := by
  unfold hasB
  have h1 : ¬ nI j < 0 := nI_pos (by omega)
  by_cases h : j < n
  · have h2 : ¬ nI n ≤ nI j := nI_ge h (by omega)
    simp [h1, h2, h]
  · have h2 : nI n ≤ nI j := nI_le (by omega) (by omega)
    simp [h2, h]
theorem hasB_m1 {n : Nat} : hasB n (-1) = false := by
  unfold hasB
  simp
/-- g: the row of BEFORE -/
def lbL (n : Nat) (f g : Nat → Int32) : Nat → Int64
  | 0 => 0
  | k + 1 => lbL n f g k + (b2i (hasB n (g k) && decide (¬ f (g k).toNatClampNeg ≤ f k))).toInt64
def ctT (kd : Nat) (f f2 g g2 : Nat → Int32) : Nat → Nat
  | 0 => 0
  | k + 1 => ctT kd f f2 g g2 k + (if ¬ f k = f2 k ∨ (kd = 5 ∧ ¬ g k = g2 k) then 1 else 0)
/-- what a rule is worth from nothing: its kind, bound, weight; f: the row it looks at, g: the row of BEFORE -/
def wth (kd : Nat) (bd wt : Int32) (f g : Nat → Int32) (n : Nat) : Int64 :=
  if kd = 0 then wt.toInt64 * eaL f bd n
  else if kd = 1 then wt.toInt64 * (if sumL f n - bd.toInt64 < 0 then 0 else sumL f n - bd.toInt64)
  else if kd = 2 then wt.toInt64 * (if 0 < sumL f n - bd.toInt64 then sumL f n - bd.toInt64 else -(sumL f n - bd.toInt64))
  else if kd = 3 then wt.toInt64 * epL f n
  else if kd = 4 then wt.toInt64 * crL f (if nI 0 < bd then bd else nI 0) n n
  else wt.toInt64 * lbL n f g n
/-- whether a chain of BEFORE comes from x to t, k steps at most -/
def ldB (n : Nat) (g : Nat → Int32) : Nat → Int32 → Int32 → Bool
  | 0, _, _ => false
  | k + 1, x, t => hasB n x && (decide (x = t) || ldB n g k (g x.toNatClampNeg) t)
def rdT (f f2 : Nat → Int32) : Nat → Nat
  | 0 => 0
  | k + 1 => rdT f f2 k + (if f k = f2 k then 0 else 1)
def coT (n : Nat) (M M2 : Nat → Nat → Int32) : Nat → Nat
  | 0 => 0
  | m + 1 => coT n M M2 m + rdT (M m) (M2 m) n
def wiB (x a b : Int32) : Bool := decide (a ≤ x) && decide (x ≤ b)
def tkB (n : Nat) (g : Nat → Int32) (o m v : Int32) : Bool :=
  hasB n o && (if m = nI 0 then wiB v (-1000) (nI 1000) else if m = nI 1 then wiB v (nI 0) (nI 20) else if m = nI 2 then decide (v = -1) || (hasB n v && !(ldB n g n v o)) else false)
def rdM (n : Nat) (M : Nat → Nat → Int32) (o m : Int32) : Int32 := if hasB n o && wiB m (nI 0) (nI 3) then M m.toNatClampNeg o.toNatClampNeg else -1000000
/-- a table at the label B: n objects, rows M -/
def isT (ad : Nat → Nat) (V : Nat → Option va_E) (cy : Nat → ClassId) (B n : Nat) (M : Nat → Nat → Int32) : Prop :=
  V B = some (.inr (5, [.ref (ad (B + 1)), .int (nI n)])) ∧ V (B + 1) = some (.inl (cy 3, 4, .inr (.inr (.inr (.inr (fun i => if i < 4 then some (ad (B + 2 + i)) else none)))))) ∧ ∀ m, m < 4 → V (B + 2 + m) = some (.inl (cy 0, 40, .inl (M m)))
theorem el4 {ad : Nat → Nat} {B j : Nat} (h : j < 4) : va_rf ((fun i => if i < 4 then some (ad (B + 2 + i)) else none) j) = .ref (ad (B + 2 + j)) := by
  simp only [h, if_true]
  rfl
/-- a rule at the label L -/
def isR (V : Nat → Option va_E) (L kd lk : Nat) (bd wt lv : Int32) : Prop := V L = some (.inr (2, [.int (nI kd), .int (nI lk), .int bd, .int wt, .int lv]))
theorem cnt_le (f : Nat → Int32) (x : Int32) (a : Nat) : ∀ k, cnt f x a k ≤ k
  | 0 => Nat.le_refl 0
  | k + 1 => by
    have := cnt_le f x a k
    unfold cnt
    split <;> omega
theorem swO {m : Int32} (n : Nat) (h : ∀ k, k ≤ n → ¬ m = nI k) : m.toInt < 0 ∨ (n : Int) < m.toInt := by
  by_cases h0 : m < 0
  · left
    rw [Int32.lt_iff_toInt_lt, Int32.toInt_zero] at h0
    exact h0
  · right
    obtain ⟨j, hj, e⟩ := nI_of h0
    rw [e, nI_toInt hj]
    by_cases h1 : j ≤ n
    · exact absurd e (h j h1)
    · omega
theorem wiB_of {b : Nat} {x : Int32} (h : wiB x (nI 0) (nI b) = true) (hb : b < 2147483648) : x = nI x.toNatClampNeg ∧ x.toNatClampNeg ≤ b := by
  simp only [wiB, Bool.and_eq_true, decide_eq_true_eq] at h
  have h0 : ¬ x < 0 := fun q => by
    have h1 := h.1
    rw [Int32.lt_iff_toInt_lt, Int32.toInt_zero] at q
    rw [Int32.le_iff_toInt_le, nI_toInt (by omega)] at h1
    omega
  obtain ⟨j, hj, e⟩ := nI_of h0
  have hc : x.toNatClampNeg = j := by rw [e]; exact nI_clamp hj
  rw [hc]
  refine ⟨e, ?_⟩
  have h2 := h.2
  rw [e] at h2
  exact nI_le' h2 hj (by omega)
def addM (n : Nat) (M : Nat → Nat → Int32) : Nat → Nat → Int32 := fun m => if m = 2 then upd (M 2) n (-1) else M m
def updM (M : Nat → Nat → Int32) (m o : Nat) (v : Int32) : Nat → Nat → Int32 := fun k => if k = m then upd (M m) o v else M k
/-- the ends of the first i objects that lead to o are moved -/
def movM (n : Nat) (M : Nat → Nat → Int32) (o : Nat) (d : Int32) (i : Nat) : Nat → Nat → Int32 := fun k => if k = 3 then (fun x => if x < i ∧ ldB n (M 2) n (nI x) (nI o) = true then M 3 x + d else M 3 x) else M k
def dueM (n : Nat) (M : Nat → Nat → Int32) (o : Nat) : Int32 := M 0 o + (if hasB n (M 2 o) = true then M 3 (M 2 o).toNatClampNeg else nI 0)
def putM (n : Nat) (M : Nat → Nat → Int32) (m o : Nat) (v : Int32) : Nat → Nat → Int32 := movM n (updM M m o v) o (dueM n (updM M m o v) o - updM M m o v 3 o) n
def Zt (n : Nat) (M : Nat → Nat → Int32) : Prop := ∀ m o, n ≤ o → M m o = 0
theorem cpyZ {f g : Nat → Int32} {n : Nat} (hf : ∀ o, n ≤ o → f o = 0) (hg : ∀ o, n ≤ o → g o = 0) : va_cpy f g 0 0 n = f := by
  funext j
  by_cases h : j < n
  · rw [pk_cpy_in (Nat.zero_le _) (by omega)]
    rw [show 0 + (j - 0) = j by omega]
  · rw [pk_cpy_out (Or.inr (by omega)), hg j (by omega), hf j (by omega)]
theorem movM_0 (n : Nat) (M : Nat → Nat → Int32) (o : Nat) (d : Int32) : movM n M o d 0 = M := by
  funext k
  unfold movM
  split
  · next h => subst h; simp
  · rfl
theorem movM_z (n : Nat) (M : Nat → Nat → Int32) (o i j : Nat) : movM n M o 0 i = movM n M o 0 j := by
  funext k
  unfold movM
  split
  · funext x
    simp
  · rfl
theorem movM_no {n : Nat} {M : Nat → Nat → Int32} {o : Nat} {d : Int32} {i : Nat} (h : ldB n (M 2) n (nI i) (nI o) = false) : movM n M o d (i + 1) = movM n M o d i := by
  funext k
  unfold movM
  split
  · funext x
    by_cases hx : x = i
    · subst hx; simp [h]
    · have : x < i + 1 ↔ x < i := by omega
      simp [this]
  · rfl
theorem movM_yes {n : Nat} {M : Nat → Nat → Int32} {o : Nat} {d : Int32} {i : Nat} (h : ldB n (M 2) n (nI i) (nI o) = true) : movM n M o d (i + 1) 3 = upd (movM n M o d i 3) i (movM n M o d i 3 i + d) := by
  funext x
  by_cases hx : x = i
  · subst hx; simp [movM, upd, h]
  · have : x < i + 1 ↔ x < i := by omega
    simp [movM, upd, hx, this]
end
section
-- within: between two bounds
set_option maxHeartbeats 4000000 in
set_option maxRecDepth 100000 in
theorem c_X6_within (l : Launch) (D : va_G) (cy : Nat → ClassId) (z0 : Nat) (ad : Nat → Nat) (V : Nat → Option va_E) (x a b : Int32) : Met l yX6_within [Cond.code yX6_within cX6_within 3 (some .boolean)] { frames := 0, cells := 0, slots := 0, locals := 0 } (WP [.int (x), .int (a), .int (b)] D cy z0 ad V) (vp_Si (fun r => r = b2i (wiB x a b))) 0 0 (fun _ => False) := by
  refine met_of (by decide) (Nat.le_of_ble_eq_true rfl) (fun p e s m below meth c hx hb hr hml hown hlocks hnm hK hz hW ls hl => ?_)
  have hown : s.vm.findClass RX6 = some m.cls := hown
  have hl : lv_has ls 3 [(0, .int (x)), (1, .int (a)), (2, .int (b))] := hl
  refine lv_iload_n hx hb dX6_within_0 rfl (lv_at hl 0 rfl) ?_
  refine lv_iload_n hx hb dX6_within_1 rfl (lv_at hl 1 rfl) ?_
  refine lv_icmp_lt (tgt := 14) hx hb dX6_within_2 (by decide) (fun c2 => ?_) (fun c2 => ?_)
  · skip
    refine lv_iconst (v := nI 0) hx hb dX6_within_14 (by decide) ?_
    exact rz hx hb hr hlocks dX6_within_15 (by first | exact b2i_n | rfl | decide) (by simp_all [b2i, nI, wiB, Int32.not_lt, ← Int32.not_le])
  · skip
    refine lv_iload_n hx hb dX6_within_5 rfl (lv_at hl 0 rfl) ?_
    refine lv_iload_n hx hb dX6_within_6 rfl (lv_at hl 2 rfl) ?_
    refine lv_icmp_gt (tgt := 14) hx hb dX6_within_7 (by decide) (fun c7 => ?_) (fun c7 => ?_)
    · skip
      refine lv_iconst (v := nI 0) hx hb dX6_within_14 (by decide) ?_
      exact rz hx hb hr hlocks dX6_within_15 (by first | exact b2i_n | rfl | decide) (by simp_all [b2i, nI, wiB, Int32.not_lt, ← Int32.not_le])
    · skip
      refine lv_iconst (v := nI 1) hx hb dX6_within_10 (by decide) ?_
      refine lv_goto (tgt := 15) hx hb dX6_within_11 (by decide) ?_
      exact rz hx hb hr hlocks dX6_within_15 (by first | exact b2i_n | rfl | decide) (by simp_all [b2i, nI, wiB, Int32.not_lt, ← Int32.not_le])

-- oneIf: the truth value itself
set_option maxHeartbeats 4000000 in
set_option maxRecDepth 100000 in
theorem c_X6_oneIf (l : Launch) (D : va_G) (cy : Nat → ClassId) (z0 : Nat) (ad : Nat → Nat) (V : Nat → Option va_E) (b : Bool) : Met l yX6_oneIf [Cond.code yX6_oneIf cX6_oneIf 1 (some .int)] { frames := 0, cells := 0, slots := 0, locals := 0 } (WP [.int (b2i b)] D cy z0 ad V) (vp_Si (fun r => r = b2i b)) 0 0 (fun _ => False) := by
  refine met_of (by decide) (Nat.le_of_ble_eq_true rfl) (fun p e s m below meth c hx hb hr hml hown hlocks hnm hK hz hW ls hl => ?_)
  have hown : s.vm.findClass RX6 = some m.cls := hown
  have hl : lv_has ls 1 [(0, .int (b2i b))] := hl
  refine lv_iload_n hx hb dX6_oneIf_0 rfl (lv_at hl 0 rfl) ?_
  refine lv_if_eq (tgt := 8) hx hb dX6_oneIf_1 (by decide) (fun c1 => ?_) (fun c1 => ?_)
  · skip
    have c1 := b2i_0.mp c1
    refine lv_iconst (v := nI 0) hx hb dX6_oneIf_8 (by decide) ?_
    exact ri hx hb hr hlocks dX6_oneIf_9 (by simp_all [b2i, nI])
  · skip
    have c1 := b2i_1.mp c1
    refine lv_iconst (v := nI 1) hx hb dX6_oneIf_4 (by decide) ?_
    refine lv_goto (tgt := 9) hx hb dX6_oneIf_5 (by decide) ?_
    exact ri hx hb hr hlocks dX6_oneIf_9 (by simp_all [b2i, nI])

-- sum of the first n
set_option maxHeartbeats 4000000 in
set_option maxRecDepth 100000 in
theorem c_X2_sum (l : Launch) (D : va_G) (cy : Nat → ClassId) (z0 : Nat) (ad : Nat → Nat) (V : Nat → Option va_E) (L N n : Nat) (f : Nat → Int32) (hV : V L = some (.inl (cy 0, N, .inl f))) (hn : n ≤ N) (hN : N < 2147483648) : Met l yX2_sum [Cond.code yX2_sum cX2_sum 5 (some .long)] { frames := 0, cells := 0, slots := 0, locals := 0 } (WP [.ref (ad L), .int (nI n)] D cy z0 ad V) (vp_Sl (fun r => r = sumL f n)) 0 0 (fun _ => False) := by
  refine met_of (by decide) (Nat.le_of_ble_eq_true rfl) (fun p e s m below meth c hx hb hr hml hown hlocks hnm hK hz hW ls hl => ?_)
  have hown : s.vm.findClass RX2 = some m.cls := hown
  have hl : lv_has ls 5 [(0, .ref (ad L)), (1, .int (nI n))] := hl
  refine lv_lconst (v := 0) hx hb dX2_sum_0 (by decide) ?_
  refine lv_lstore_n (lv' := [(2, .long (0)), (0, .ref (ad L)), (1, .int (nI n))]) hx hb dX2_sum_1 rfl hl (by decide) rfl (fun ls hl => ?_)
  refine lv_iconst (v := nI 0) hx hb dX2_sum_2 (by decide) ?_
  refine lv_istore (lv' := [(4, .int (nI 0)), (2, .long (0)), (0, .ref (ad L)), (1, .int (nI n))]) hx hb dX2_sum_3 hl (by decide) rfl (fun ls hl => ?_)
  refine wl (ι := Nat) (fun i => n - i) (fun i g => (i ≤ n) ∧ ∃ ls, g = F0 m 5 ls [] ∧ lv_has ls 5 [(0, .ref (ad L)), (1, .int (nI n)), (2, .long (sumL f i)), (4, .int (nI i))]) ?_ (0) _ ⟨Nat.zero_le _, ls, rfl, lv_sub hl [2, 3, 1, 0] rfl⟩
  intro i g hg ih
  obtain ⟨hi, ls, rfl, hl⟩ := hg
  refine lv_iload hx hb dX2_sum_5 (lv_at hl 3 rfl) ?_
  refine lv_iload_n hx hb dX2_sum_7 rfl (lv_at hl 1 rfl) ?_
  refine lv_icmp_ge (tgt := 25) hx hb dX2_sum_8 (by decide) (fun c8 => ?_) (fun c8 => ?_)
  · skip
    have c8 := nI_le' c8 (by omega) (by omega)
    refine lv_lload_n hx hb dX2_sum_25 rfl (lv_at hl 2 rfl) ?_
    exact rl hx hb hr hlocks dX2_sum_26 (by have e9 : i = n := (by omega); rw [e9])
  · skip
    have c8 := nI_nle' c8 (by omega) (by omega)
    refine lv_lload_n hx hb dX2_sum_11 rfl (lv_at hl 2 rfl) ?_
    refine lv_aload_n hx hb dX2_sum_12 rfl (lv_at hl 0 rfl) ?_
    refine lv_iload hx hb dX2_sum_13 (lv_at hl 3 rfl) ?_
    refine w_iald hx hb hK hW hV (j := i) (rfl) (by omega) (by omega) dX2_sum_15 ?_
    refine lv_i2l (v := (f i).toInt64) hx hb dX2_sum_16 rfl ?_
    refine lv_ladd hx hb dX2_sum_17 ?_
    refine asl (y := sumL f (i + 1)) (rfl) ?_
    refine lv_lstore_n (lv' := [(2, .long (sumL f (i + 1))), (0, .ref (ad L)), (1, .int (nI n)), (4, .int (nI i))]) hx hb dX2_sum_18 rfl hl (by decide) rfl (fun ls hl => ?_)
    refine lv_iinc (v := nI (i + 1)) (lv' := [(4, .int (nI (i + 1))), (2, .long (sumL f (i + 1))), (0, .ref (ad L)), (1, .int (nI n))]) hx hb dX2_sum_19 hl (k := 3) rfl (by rw [show Int32.ofInt 1 = nI 1 from by decide]; exact nI_add _ _) (by decide) rfl (fun ls hl => ?_)
    refine lv_goto (tgt := 5) hx hb dX2_sum_22 (by decide) ?_
    exact ih (i + 1) _ ⟨by omega, ls, rfl, lv_sub hl [2, 3, 1, 0] rfl⟩ (by omega)

-- how many of the places a .. b - 1 hold x
set_option maxHeartbeats 4000000 in
set_option maxRecDepth 100000 in
theorem c_X2_countOf (l : Launch) (D : va_G) (cy : Nat → ClassId) (z0 : Nat) (ad : Nat → Nat) (V : Nat → Option va_E) (L N a b : Nat) (x : Int32) (f : Nat → Int32) (hV : V L = some (.inl (cy 0, N, .inl f))) (ha : a ≤ b) (hb0 : b ≤ N) (hN : N < 2147483648) : Met l yX2_countOf [Cond.code yX2_countOf cX2_countOf 6 (some .int)] { frames := 0, cells := 0, slots := 0, locals := 0 } (WP [.int (x), .ref (ad L), .int (nI a), .int (nI b)] D cy z0 ad V) (vp_Si (fun r => r = nI (cnt f x a (b - a)))) 0 0 (fun _ => False) := by
  refine met_of (by decide) (Nat.le_of_ble_eq_true rfl) (fun p e s m below meth c hx hb hr hml hown hlocks hnm hK hz hW ls hl => ?_)
  have hown : s.vm.findClass RX2 = some m.cls := hown
  have hl : lv_has ls 6 [(0, .int (x)), (1, .ref (ad L)), (2, .int (nI a)), (3, .int (nI b))] := hl
  refine lv_iconst (v := nI 0) hx hb dX2_countOf_0 (by decide) ?_
  refine lv_istore (lv' := [(4, .int (nI 0)), (0, .int (x)), (1, .ref (ad L)), (2, .int (nI a)), (3, .int (nI b))]) hx hb dX2_countOf_1 hl (by decide) rfl (fun ls hl => ?_)
  refine lv_iload_n hx hb dX2_countOf_3 rfl (lv_at hl 3 rfl) ?_
  refine lv_istore (lv' := [(5, .int (nI a)), (4, .int (nI 0)), (0, .int (x)), (1, .ref (ad L)), (2, .int (nI a)), (3, .int (nI b))]) hx hb dX2_countOf_4 hl (by decide) rfl (fun ls hl => ?_)
  refine wl (ι := Nat) (fun k => b - a - k) (fun k g => (a + k ≤ b) ∧ ∃ ls, g = F0 m 6 ls [] ∧ lv_has ls 6 [(0, .int (x)), (1, .ref (ad L)), (3, .int (nI b)), (4, .int (nI (cnt f x a k))), (5, .int (nI (a + k)))]) ?_ (0) _ ⟨by omega, ls, rfl, lv_sub hl [2, 3, 5, 1, 0] rfl⟩
  intro k g hg ih
  obtain ⟨hi, ls, rfl, hl⟩ := hg
  refine lv_iload hx hb dX2_countOf_6 (lv_at hl 4 rfl) ?_
  refine lv_iload_n hx hb dX2_countOf_8 rfl (lv_at hl 2 rfl) ?_
  refine lv_icmp_ge (tgt := 29) hx hb dX2_countOf_9 (by decide) (fun c9 => ?_) (fun c9 => ?_)
  · skip
    have c9 := nI_le' c9 (by omega) (by omega)
    refine lv_iload hx hb dX2_countOf_29 (lv_at hl 3 rfl) ?_
    exact ri hx hb hr hlocks dX2_countOf_31 (by have e9 : k = b - a := (by omega); rw [e9])
  · skip
    have c9 := nI_nle' c9 (by omega) (by omega)
    refine jl (pcj := 23) (st := []) (nL := 6) (lv := [(4, .int (nI (cnt f x a (k + 1)))), (0, .int (x)), (1, .ref (ad L)), (3, .int (nI b)), (5, .int (nI (a + k)))]) (fun K => ?_) (fun ls hl => ?_)
    · skip
      refine lv_aload_n hx hb dX2_countOf_12 rfl (lv_at hl 1 rfl) ?_
      refine lv_iload hx hb dX2_countOf_13 (lv_at hl 4 rfl) ?_
      refine w_iald hx hb hK hW hV (j := a + k) (rfl) (by omega) (by omega) dX2_countOf_15 ?_
      refine lv_iload_n hx hb dX2_countOf_16 rfl (lv_at hl 0 rfl) ?_
      refine lv_icmp_ne (tgt := 23) hx hb dX2_countOf_17 (by decide) (fun c17 => ?_) (fun c17 => ?_)
      · skip
        have hq4 : (nI (cnt f x a k)) = (nI (cnt f x a (k + 1))) := by simp [cnt, c17]
        rw [hq4] at hl
        exact K ls (lv_sub hl [3, 0, 1, 2, 4] rfl)
      · skip
        refine lv_iinc (v := nI (cnt f x a k + 1)) (lv' := [(4, .int (nI (cnt f x a k + 1))), (0, .int (x)), (1, .ref (ad L)), (3, .int (nI b)), (5, .int (nI (a + k)))]) hx hb dX2_countOf_20 hl (k := 3) rfl (by rw [show Int32.ofInt 1 = nI 1 from by decide]; exact nI_add _ _) (by decide) rfl (fun ls hl => ?_)
        have hq4 : (nI (cnt f x a k + 1)) = (nI (cnt f x a (k + 1))) := by simp [cnt, c17]
        rw [hq4] at hl
        exact K ls (lv_sub hl [0, 1, 2, 3, 4] rfl)
    · skip
      refine lv_iinc (v := nI (a + (k + 1))) (lv' := [(5, .int (nI (a + (k + 1)))), (4, .int (nI (cnt f x a (k + 1)))), (0, .int (x)), (1, .ref (ad L)), (3, .int (nI b))]) hx hb dX2_countOf_23 hl (k := 4) rfl (by rw [show Int32.ofInt 1 = nI 1 from by decide]; exact nI_add _ _) (by decide) rfl (fun ls hl => ?_)
      refine lv_goto (tgt := 6) hx hb dX2_countOf_26 (by decide) ?_
      exact ih (k + 1) _ ⟨by omega, ls, rfl, lv_sub hl [2, 3, 4, 1, 0] rfl⟩ (by omega)

set_option maxHeartbeats 4000000 in
set_option maxRecDepth 100000 in
theorem c_X2_eachAbove (l : Launch) (D : va_G) (cy : Nat → ClassId) (z0 : Nat) (ad : Nat → Nat) (V : Nat → Option va_E) (LR kd lk : Nat) (bd wt lv : Int32) (hR : isR V LR kd lk bd wt lv) (L N n : Nat) (f : Nat → Int32) (hV : V L = some (.inl (cy 0, N, .inl f))) (hn : n ≤ N) (hN : N < 2147483648) : Met l yX2_eachAbove [Cond.code yX2_eachAbove cX2_eachAbove 6 (some .long)] { frames := 1, cells := 0, slots := 0, locals := 24 } (WP [.ref (ad LR), .ref (ad L), .int (nI n)] D cy z0 ad V) (vp_Sl (fun r => r = eaL f bd n)) 0 0 (fun _ => False) := by
  refine met_of (by decide) (Nat.le_of_ble_eq_true rfl) (fun p e s m below meth c hx hb hr hml hown hlocks hnm hK hz hW ls hl => ?_)
  have hown : s.vm.findClass RX2 = some m.cls := hown
  have hl : lv_has ls 6 [(0, .ref (ad LR)), (1, .ref (ad L)), (2, .int (nI n))] := hl
  refine lv_lconst (v := 0) hx hb dX2_eachAbove_0 (by decide) ?_
  refine lv_lstore_n (lv' := [(3, .long (0)), (0, .ref (ad LR)), (1, .ref (ad L)), (2, .int (nI n))]) hx hb dX2_eachAbove_1 rfl hl (by decide) rfl (fun ls hl => ?_)
  refine lv_iconst (v := nI 0) hx hb dX2_eachAbove_2 (by decide) ?_
  refine lv_istore (lv' := [(5, .int (nI 0)), (3, .long (0)), (0, .ref (ad LR)), (1, .ref (ad L)), (2, .int (nI n))]) hx hb dX2_eachAbove_3 hl (by decide) rfl (fun ls hl => ?_)
  refine wl (ι := Nat) (fun i => n - i) (fun i g => (i ≤ n) ∧ ∃ ls, g = F0 m 5 ls [] ∧ lv_has ls 6 [(0, .ref (ad LR)), (1, .ref (ad L)), (2, .int (nI n)), (3, .long (eaL f bd i)), (5, .int (nI i))]) ?_ (0) _ ⟨Nat.zero_le _, ls, rfl, lv_sub hl [2, 3, 4, 1, 0] rfl⟩
  intro i g hg ih
  obtain ⟨hi, ls, rfl, hl⟩ := hg
  refine lv_iload hx hb dX2_eachAbove_5 (lv_at hl 4 rfl) ?_
  refine lv_iload_n hx hb dX2_eachAbove_7 rfl (lv_at hl 2 rfl) ?_
  refine lv_icmp_ge (tgt := 34) hx hb dX2_eachAbove_8 (by decide) (fun c8 => ?_) (fun c8 => ?_)
  · skip
    have c8 := nI_le' c8 (by omega) (by omega)
    refine lv_lload_n hx hb dX2_eachAbove_34 rfl (lv_at hl 3 rfl) ?_
    exact rl hx hb hr hlocks dX2_eachAbove_35 (by have e9 : i = n := (by omega); rw [e9])
  · skip
    have c8 := nI_nle' c8 (by omega) (by omega)
    refine lv_lload_n hx hb dX2_eachAbove_11 rfl (lv_at hl 3 rfl) ?_
    refine lv_iconst (v := nI 0) hx hb dX2_eachAbove_12 (by decide) ?_
    refine lv_aload_n hx hb dX2_eachAbove_13 rfl (lv_at hl 1 rfl) ?_
    refine lv_iload hx hb dX2_eachAbove_14 (lv_at hl 4 rfl) ?_
    refine w_iald hx hb hK hW hV (j := i) (rfl) (by omega) (by omega) dX2_eachAbove_16 ?_
    refine lv_aload_n hx hb dX2_eachAbove_17 rfl (lv_at hl 0 rfl) ?_
    refine g_X2_X2_bound hx hb hown hK hW hR dX2_eachAbove_18 ?_
    refine lv_isub hx hb dX2_eachAbove_21 ?_
    refine k_X2_mmax hx hb (hml.trans hl.1.symm) hown hK (Nat.le_of_ble_eq_true rfl) (Nat.le_of_ble_eq_true rfl) (Nat.zero_le _) (Nat.zero_le _) dX2_eachAbove_22 ?_
    refine lv_i2l (v := (if (nI 0) < ((f i) - bd) then ((f i) - bd) else (nI 0)).toInt64) hx hb dX2_eachAbove_25 rfl ?_
    refine lv_ladd hx hb dX2_eachAbove_26 ?_
    refine asl (y := eaL f bd (i + 1)) (rfl) ?_
    refine lv_lstore_n (lv' := [(3, .long (eaL f bd (i + 1))), (0, .ref (ad LR)), (1, .ref (ad L)), (2, .int (nI n)), (5, .int (nI i))]) hx hb dX2_eachAbove_27 rfl hl (by decide) rfl (fun ls hl => ?_)
    refine lv_iinc (v := nI (i + 1)) (lv' := [(5, .int (nI (i + 1))), (3, .long (eaL f bd (i + 1))), (0, .ref (ad LR)), (1, .ref (ad L)), (2, .int (nI n))]) hx hb dX2_eachAbove_28 hl (k := 4) rfl (by rw [show Int32.ofInt 1 = nI 1 from by decide]; exact nI_add _ _) (by decide) rfl (fun ls hl => ?_)
    refine lv_goto (tgt := 5) hx hb dX2_eachAbove_31 (by decide) ?_
    exact ih (i + 1) _ ⟨by omega, ls, rfl, lv_sub hl [2, 3, 4, 1, 0] rfl⟩ (by omega)

set_option maxHeartbeats 4000000 in
set_option maxRecDepth 100000 in
theorem c_X2_equalPairs (l : Launch) (D : va_G) (cy : Nat → ClassId) (z0 : Nat) (ad : Nat → Nat) (V : Nat → Option va_E) (L N n : Nat) (f : Nat → Int32) (hV : V L = some (.inl (cy 0, N, .inl f))) (hn : n ≤ N) (hN : N < 2147483648) : Met l yX2_equalPairs [Cond.code yX2_equalPairs cX2_equalPairs 5 (some .long)] { frames := 1, cells := 0, slots := 0, locals := 25 } (WP [.ref (ad L), .int (nI n)] D cy z0 ad V) (vp_Sl (fun r => r = epL f n)) 0 0 (fun _ => False) := by
  refine met_of (by decide) (Nat.le_of_ble_eq_true rfl) (fun p e s m below meth c hx hb hr hml hown hlocks hnm hK hz hW ls hl => ?_)
  have hown : s.vm.findClass RX2 = some m.cls := hown
  have hl : lv_has ls 5 [(0, .ref (ad L)), (1, .int (nI n))] := hl
  refine lv_lconst (v := 0) hx hb dX2_equalPairs_0 (by decide) ?_
  refine lv_lstore_n (lv' := [(2, .long (0)), (0, .ref (ad L)), (1, .int (nI n))]) hx hb dX2_equalPairs_1 rfl hl (by decide) rfl (fun ls hl => ?_)
  refine lv_iconst (v := nI 0) hx hb dX2_equalPairs_2 (by decide) ?_
  refine lv_istore (lv' := [(4, .int (nI 0)), (2, .long (0)), (0, .ref (ad L)), (1, .int (nI n))]) hx hb dX2_equalPairs_3 hl (by decide) rfl (fun ls hl => ?_)
  refine wl (ι := Nat) (fun i => n - i) (fun i g => (i ≤ n) ∧ ∃ ls, g = F0 m 5 ls [] ∧ lv_has ls 5 [(0, .ref (ad L)), (1, .int (nI n)), (2, .long (epL f i)), (4, .int (nI i))]) ?_ (0) _ ⟨Nat.zero_le _, ls, rfl, lv_sub hl [2, 3, 1, 0] rfl⟩
  intro i g hg ih
  obtain ⟨hi, ls, rfl, hl⟩ := hg
  refine lv_iload hx hb dX2_equalPairs_5 (lv_at hl 3 rfl) ?_
  refine lv_iload_n hx hb dX2_equalPairs_7 rfl (lv_at hl 1 rfl) ?_
  refine lv_icmp_ge (tgt := 32) hx hb dX2_equalPairs_8 (by decide) (fun c8 => ?_) (fun c8 => ?_)
  · skip
    have c8 := nI_le' c8 (by omega) (by omega)
    refine lv_lload_n hx hb dX2_equalPairs_32 rfl (lv_at hl 2 rfl) ?_
    exact rl hx hb hr hlocks dX2_equalPairs_33 (by have e9 : i = n := (by omega); rw [e9])
  · skip
    have c8 := nI_nle' c8 (by omega) (by omega)
    refine lv_lload_n hx hb dX2_equalPairs_11 rfl (lv_at hl 2 rfl) ?_
    refine lv_aload_n hx hb dX2_equalPairs_12 rfl (lv_at hl 0 rfl) ?_
    refine lv_iload hx hb dX2_equalPairs_13 (lv_at hl 3 rfl) ?_
    refine w_iald hx hb hK hW hV (j := i) (rfl) (by omega) (by omega) dX2_equalPairs_15 ?_
    refine lv_aload_n hx hb dX2_equalPairs_16 rfl (lv_at hl 0 rfl) ?_
    refine lv_iconst (v := nI 0) hx hb dX2_equalPairs_17 (by decide) ?_
    refine lv_iload hx hb dX2_equalPairs_18 (lv_at hl 3 rfl) ?_
    refine vp_callSi (va_Run.run (va_runS (As := [.int (f i), .ref (ad L), .int (nI 0), .int (nI i)]) (rest := [.long (epL f i)]) ⟨hx, hb, hml, hown, hK.1.use _⟩ (c_X2_countOf l D cy z0 ad V L N 0 i (f i) f hV (by omega) (by omega) (by omega)) (k_X2_X2_countOf hK.1 rfl rfl ⟨Nat.le_of_ble_eq_true rfl, Nat.le_of_ble_eq_true rfl⟩) (preS hK hz hW) rfl rfl hl.1 rfl (lv_room (Nat.le_of_ble_eq_true rfl)) dX2_equalPairs_20 ⟨Nat.le_of_ble_eq_true rfl, Nat.le_of_ble_eq_true rfl⟩)) (fun r20 h20 => ?_)
    have h20 : r20 = nI (cnt f (f i) 0 (i - 0)) := h20
    subst h20
    refine lv_i2l (v := (nI (cnt f (f i) 0 (i - 0))).toInt64) hx hb dX2_equalPairs_23 rfl ?_
    refine lv_ladd hx hb dX2_equalPairs_24 ?_
    refine asl (y := epL f (i + 1)) (rfl) ?_
    refine lv_lstore_n (lv' := [(2, .long (epL f (i + 1))), (0, .ref (ad L)), (1, .int (nI n)), (4, .int (nI i))]) hx hb dX2_equalPairs_25 rfl hl (by decide) rfl (fun ls hl => ?_)
    refine lv_iinc (v := nI (i + 1)) (lv' := [(4, .int (nI (i + 1))), (2, .long (epL f (i + 1))), (0, .ref (ad L)), (1, .int (nI n))]) hx hb dX2_equalPairs_26 hl (k := 3) rfl (by rw [show Int32.ofInt 1 = nI 1 from by decide]; exact nI_add _ _) (by decide) rfl (fun ls hl => ?_)
    refine lv_goto (tgt := 5) hx hb dX2_equalPairs_29 (by decide) ?_
    exact ih (i + 1) _ ⟨by omega, ls, rfl, lv_sub hl [2, 3, 1, 0] rfl⟩ (by omega)

set_option maxHeartbeats 4000000 in
set_option maxRecDepth 100000 in
theorem c_X2_crowds (l : Launch) (D : va_G) (cy : Nat → ClassId) (z0 : Nat) (ad : Nat → Nat) (V : Nat → Option va_E) (LR kd lk : Nat) (bd wt lv : Int32) (hR : isR V LR kd lk bd wt lv) (L N n : Nat) (f : Nat → Int32) (hV : V L = some (.inl (cy 0, N, .inl f))) (hn : n ≤ N) (hN : N < 2147483648) : Met l yX2_crowds [Cond.code yX2_crowds cX2_crowds 8 (some .long)] { frames := 1, cells := 0, slots := 0, locals := 25 } (WP [.ref (ad LR), .ref (ad L), .int (nI n)] D cy z0 ad V) (vp_Sl (fun r => r = crL f (if nI 0 < bd then bd else nI 0) n n)) 0 0 (fun _ => False) := by
  refine met_of (by decide) (Nat.le_of_ble_eq_true rfl) (fun p e s m below meth c hx hb hr hml hown hlocks hnm hK hz hW ls hl => ?_)
  have hown : s.vm.findClass RX2 = some m.cls := hown
  have hl : lv_has ls 8 [(0, .ref (ad LR)), (1, .ref (ad L)), (2, .int (nI n))] := hl
  refine lv_iconst (v := nI 0) hx hb dX2_crowds_0 (by decide) ?_
  refine lv_aload_n hx hb dX2_crowds_1 rfl (lv_at hl 0 rfl) ?_
  refine g_X2_X2_bound hx hb hown hK hW hR dX2_crowds_2 ?_
  refine k_X2_mmax hx hb (hml.trans hl.1.symm) hown hK (Nat.le_of_ble_eq_true rfl) (Nat.le_of_ble_eq_true rfl) (Nat.zero_le _) (Nat.zero_le _) dX2_crowds_5 ?_
  refine lv_istore_n (lv' := [(3, .int (if (nI 0) < bd then bd else (nI 0))), (0, .ref (ad LR)), (1, .ref (ad L)), (2, .int (nI n))]) hx hb dX2_crowds_8 rfl hl (by decide) rfl (fun ls hl => ?_)
  refine lv_lconst (v := 0) hx hb dX2_crowds_9 (by decide) ?_
  refine lv_lstore (lv' := [(4, .long (0)), (3, .int (if (nI 0) < bd then bd else (nI 0))), (0, .ref (ad LR)), (1, .ref (ad L)), (2, .int (nI n))]) hx hb dX2_crowds_10 hl (by decide) rfl (fun ls hl => ?_)
  refine lv_iconst (v := nI 0) hx hb dX2_crowds_12 (by decide) ?_
  refine lv_istore (lv' := [(6, .int (nI 0)), (4, .long (0)), (3, .int (if (nI 0) < bd then bd else (nI 0))), (0, .ref (ad LR)), (1, .ref (ad L)), (2, .int (nI n))]) hx hb dX2_crowds_13 hl (by decide) rfl (fun ls hl => ?_)
  refine wl (ι := Nat) (fun i => n - i) (fun i g => (i ≤ n) ∧ ∃ ls, g = F0 m 15 ls [] ∧ lv_has ls 8 [(1, .ref (ad L)), (2, .int (nI n)), (3, .int (if nI 0 < bd then bd else nI 0)), (4, .long (crL f (if nI 0 < bd then bd else nI 0) n i)), (6, .int (nI i))]) ?_ (0) _ ⟨Nat.zero_le _, ls, rfl, lv_sub hl [4, 5, 2, 1, 0] rfl⟩
  intro i g hg ih
  obtain ⟨hi, ls, rfl, hl⟩ := hg
  refine lv_iload hx hb dX2_crowds_15 (lv_at hl 4 rfl) ?_
  refine lv_iload_n hx hb dX2_crowds_17 rfl (lv_at hl 1 rfl) ?_
  refine lv_icmp_ge (tgt := 76) hx hb dX2_crowds_18 (by decide) (fun c18 => ?_) (fun c18 => ?_)
  · skip
    have c18 := nI_le' c18 (by omega) (by omega)
    refine lv_lload hx hb dX2_crowds_76 (lv_at hl 3 rfl) ?_
    exact rl hx hb hr hlocks dX2_crowds_78 (by have e9 : i = n := (by omega); rw [e9])
  · skip
    have c18 := nI_nle' c18 (by omega) (by omega)
    refine lv_aload_n hx hb dX2_crowds_21 rfl (lv_at hl 0 rfl) ?_
    refine lv_iload hx hb dX2_crowds_22 (lv_at hl 4 rfl) ?_
    refine w_iald hx hb hK hW hV (j := i) (rfl) (by omega) (by omega) dX2_crowds_24 ?_
    refine lv_aload_n hx hb dX2_crowds_25 rfl (lv_at hl 0 rfl) ?_
    refine lv_iconst (v := nI 0) hx hb dX2_crowds_26 (by decide) ?_
    refine lv_iload hx hb dX2_crowds_27 (lv_at hl 4 rfl) ?_
    refine vp_callSi (va_Run.run (va_runS (As := [.int (f i), .ref (ad L), .int (nI 0), .int (nI i)]) (rest := []) ⟨hx, hb, hml, hown, hK.1.use _⟩ (c_X2_countOf l D cy z0 ad V L N 0 i (f i) f hV (by omega) (by omega) (by omega)) (k_X2_X2_countOf hK.1 rfl rfl ⟨Nat.le_of_ble_eq_true rfl, Nat.le_of_ble_eq_true rfl⟩) (preS hK hz hW) rfl rfl hl.1 rfl (lv_room (Nat.le_of_ble_eq_true rfl)) dX2_crowds_29 ⟨Nat.le_of_ble_eq_true rfl, Nat.le_of_ble_eq_true rfl⟩)) (fun r29 h29 => ?_)
    have h29 : r29 = nI (cnt f (f i) 0 (i - 0)) := h29
    subst h29
    have hcl : cnt f (f i) 0 (i - 0) ≤ i := (cnt_le _ _ _ _)
    refine jl (pcj := 40) (st := [.int (b2i (decide (cnt f (f i) 0 i = 0)))]) (nL := 8) (lv := [(1, .ref (ad L)), (2, .int (nI n)), (3, .int (if nI 0 < bd then bd else nI 0)), (4, .long (crL f (if nI 0 < bd then bd else nI 0) n i)), (6, .int (nI i))]) (fun K => ?_) (fun ls hl => ?_)
    · skip
      refine lv_if_ne (tgt := 39) hx hb dX2_crowds_32 (by decide) (fun c32 => ?_) (fun c32 => ?_)
      · skip
        have c32 := nI_ne' (b := 0) c32 (by omega) (by omega)
        refine lv_iconst (v := nI 0) hx hb dX2_crowds_39 (by decide) ?_
        refine asi (y := b2i (decide (cnt f (f i) 0 i = 0))) (by have c32 : _ := c32; simp at c32; simp [b2i, nI, c32]) ?_
        exact K ls (lv_sub hl [0, 1, 2, 3, 4] rfl)
      · skip
        have c32 := nI_eq' (b := 0) c32 (by omega) (by omega)
        refine lv_iconst (v := nI 1) hx hb dX2_crowds_35 (by decide) ?_
        refine lv_goto (tgt := 40) hx hb dX2_crowds_36 (by decide) ?_
        refine asi (y := b2i (decide (cnt f (f i) 0 i = 0))) (by have c32 : _ := c32; simp at c32; simp [b2i, nI, c32]) ?_
        exact K ls (lv_sub hl [0, 1, 2, 3, 4] rfl)
    · skip
      refine lv_istore (lv' := [(7, .int (b2i (decide (cnt f (f i) 0 i = 0)))), (1, .ref (ad L)), (2, .int (nI n)), (3, .int (if nI 0 < bd then bd else nI 0)), (4, .long (crL f (if nI 0 < bd then bd else nI 0) n i)), (6, .int (nI i))]) hx hb dX2_crowds_40 hl (by decide) rfl (fun ls hl => ?_)
      refine jl (pcj := 70) (st := []) (nL := 8) (lv := [(4, .long (crL f (if nI 0 < bd then bd else nI 0) n (i + 1))), (1, .ref (ad L)), (2, .int (nI n)), (3, .int (if nI 0 < bd then bd else nI 0)), (6, .int (nI i))]) (fun K => ?_) (fun ls hl => ?_)
      · skip
        refine lv_iload hx hb dX2_crowds_42 (lv_at hl 0 rfl) ?_
        refine lv_if_eq (tgt := 70) hx hb dX2_crowds_44 (by decide) (fun c44 => ?_) (fun c44 => ?_)
        · skip
          have c44 := b2i_0.mp c44
          have c44 : ¬ cnt f (f i) 0 i = 0 := by simpa using c44
          have hq4 : (crL f (if nI 0 < bd then bd else nI 0) n i) = (crL f (if nI 0 < bd then bd else nI 0) n (i + 1)) := by simp [crL, c44]
          rw [hq4] at hl
          exact K ls (lv_sub hl [4, 1, 2, 3, 5] rfl)
        · skip
          have c44 := b2i_1.mp c44
          have c44 : cnt f (f i) 0 i = 0 := by simpa using c44
          refine lv_lload hx hb dX2_crowds_47 (lv_at hl 4 rfl) ?_
          refine lv_iconst (v := nI 0) hx hb dX2_crowds_49 (by decide) ?_
          refine lv_aload_n hx hb dX2_crowds_50 rfl (lv_at hl 1 rfl) ?_
          refine lv_iload hx hb dX2_crowds_51 (lv_at hl 5 rfl) ?_
          refine w_iald hx hb hK hW hV (j := i) (rfl) (by omega) (by omega) dX2_crowds_53 ?_
          refine lv_aload_n hx hb dX2_crowds_54 rfl (lv_at hl 1 rfl) ?_
          refine lv_iload hx hb dX2_crowds_55 (lv_at hl 5 rfl) ?_
          refine lv_iload_n hx hb dX2_crowds_57 rfl (lv_at hl 2 rfl) ?_
          refine vp_callSi (va_Run.run (va_runS (As := [.int (f i), .ref (ad L), .int (nI i), .int (nI n)]) (rest := [.int (nI 0), .long (crL f (if nI 0 < bd then bd else nI 0) n i)]) ⟨hx, hb, hml, hown, hK.1.use _⟩ (c_X2_countOf l D cy z0 ad V L N i n (f i) f hV (by omega) (by omega) (by omega)) (k_X2_X2_countOf hK.1 rfl rfl ⟨Nat.le_of_ble_eq_true rfl, Nat.le_of_ble_eq_true rfl⟩) (preS hK hz hW) rfl rfl hl.1 rfl (lv_room (Nat.le_of_ble_eq_true rfl)) dX2_crowds_58 ⟨Nat.le_of_ble_eq_true rfl, Nat.le_of_ble_eq_true rfl⟩)) (fun r58 h58 => ?_)
          have h58 : r58 = nI (cnt f (f i) i (n - i)) := h58
          subst h58
          refine lv_iload_n hx hb dX2_crowds_61 rfl (lv_at hl 3 rfl) ?_
          refine lv_isub hx hb dX2_crowds_62 ?_
          refine k_X2_mmax hx hb (hml.trans hl.1.symm) hown hK (Nat.le_of_ble_eq_true rfl) (Nat.le_of_ble_eq_true rfl) (Nat.zero_le _) (Nat.zero_le _) dX2_crowds_63 ?_
          refine lv_i2l (v := (if (nI 0) < ((nI (cnt f (f i) i (n - i))) - (if nI 0 < bd then bd else nI 0)) then ((nI (cnt f (f i) i (n - i))) - (if nI 0 < bd then bd else nI 0)) else (nI 0)).toInt64) hx hb dX2_crowds_66 rfl ?_
          refine lv_ladd hx hb dX2_crowds_67 ?_
          refine lv_lstore (lv' := [(4, .long ((crL f (if nI 0 < bd then bd else nI 0) n i) + ((if (nI 0) < ((nI (cnt f (f i) i (n - i))) - (if nI 0 < bd then bd else nI 0)) then ((nI (cnt f (f i) i (n - i))) - (if nI 0 < bd then bd else nI 0)) else (nI 0)).toInt64))), (7, .int (b2i (decide (cnt f (f i) 0 i = 0)))), (1, .ref (ad L)), (2, .int (nI n)), (3, .int (if nI 0 < bd then bd else nI 0)), (6, .int (nI i))]) hx hb dX2_crowds_68 hl (by decide) rfl (fun ls hl => ?_)
          have hq4 : ((crL f (if nI 0 < bd then bd else nI 0) n i) + ((if (nI 0) < ((nI (cnt f (f i) i (n - i))) - (if nI 0 < bd then bd else nI 0)) then ((nI (cnt f (f i) i (n - i))) - (if nI 0 < bd then bd else nI 0)) else (nI 0)).toInt64)) = (crL f (if nI 0 < bd then bd else nI 0) n (i + 1)) := by simp [crL, c44]
          rw [hq4] at hl
          exact K ls (lv_sub hl [0, 2, 3, 4, 5] rfl)
      · skip
        refine lv_iinc (v := nI (i + 1)) (lv' := [(6, .int (nI (i + 1))), (4, .long (crL f (if nI 0 < bd then bd else nI 0) n (i + 1))), (1, .ref (ad L)), (2, .int (nI n)), (3, .int (if nI 0 < bd then bd else nI 0))]) hx hb dX2_crowds_70 hl (k := 4) rfl (by rw [show Int32.ofInt 1 = nI 1 from by decide]; exact nI_add _ _) (by decide) rfl (fun ls hl => ?_)
        refine lv_goto (tgt := 15) hx hb dX2_crowds_73 (by decide) ?_
        exact ih (i + 1) _ ⟨by omega, ls, rfl, lv_sub hl [2, 3, 4, 1, 0] rfl⟩ (by omega)

set_option maxHeartbeats 4000000 in
set_option maxRecDepth 100000 in
theorem c_X5_has (l : Launch) (D : va_G) (cy : Nat → ClassId) (z0 : Nat) (ad : Nat → Nat) (V : Nat → Option va_E) (B n : Nat) (M : Nat → Nat → Int32) (x : Int32) (hT : isT ad V cy B n M) : Met l yX5_has [Cond.code yX5_has cX5_has 2 (some .boolean)] { frames := 0, cells := 0, slots := 0, locals := 0 } (WP [.ref (ad B), .int (x)] D cy z0 ad V) (vp_Si (fun r => r = b2i (hasB n x))) 0 0 (fun _ => False) := by
  refine met_of (by decide) (Nat.le_of_ble_eq_true rfl) (fun p e s m below meth c hx hb hr hml hown hlocks hnm hK hz hW ls hl => ?_)
  have hown : s.vm.findClass RX5 = some m.cls := hown
  have hl : lv_has ls 2 [(0, .ref (ad B)), (1, .int (x))] := hl
  obtain ⟨hT0, hT1, hTr⟩ := id hT
  refine lv_iload_n hx hb dX5_has_0 rfl (lv_at hl 1 rfl) ?_
  refine lv_if_lt (tgt := 16) hx hb dX5_has_1 (by decide) (fun c1 => ?_) (fun c1 => ?_)
  · skip
    refine lv_iconst (v := nI 0) hx hb dX5_has_16 (by decide) ?_
    exact rz hx hb hr hlocks dX5_has_17 (by first | exact b2i_n | rfl | decide) (by simp_all [b2i, nI, hasB])
  · skip
    refine lv_iload_n hx hb dX5_has_4 rfl (lv_at hl 1 rfl) ?_
    refine lv_aload_n hx hb dX5_has_5 rfl (lv_at hl 0 rfl) ?_
    refine g_X5_X5_objects hx hb hown hK hW hT0 dX5_has_6 ?_
    refine lv_icmp_ge (tgt := 16) hx hb dX5_has_9 (by decide) (fun c9 => ?_) (fun c9 => ?_)
    · skip
      refine lv_iconst (v := nI 0) hx hb dX5_has_16 (by decide) ?_
      exact rz hx hb hr hlocks dX5_has_17 (by first | exact b2i_n | rfl | decide) (by simp_all [b2i, nI, hasB])
    · skip
      refine lv_iconst (v := nI 1) hx hb dX5_has_12 (by decide) ?_
      refine lv_goto (tgt := 17) hx hb dX5_has_13 (by decide) ?_
      exact rz hx hb hr hlocks dX5_has_17 (by first | exact b2i_n | rfl | decide) (by simp_all [b2i, nI, hasB])

set_option maxHeartbeats 4000000 in
set_option maxRecDepth 100000 in
theorem c_X2_lessThanBefore (l : Launch) (D : va_G) (cy : Nat → ClassId) (z0 : Nat) (ad : Nat → Nat) (V : Nat → Option va_E) (L N : Nat) (f : Nat → Int32) (hV : V L = some (.inl (cy 0, N, .inl f))) (B n : Nat) (M : Nat → Nat → Int32) (hT : isT ad V cy B n M) (hn : n ≤ N) (hn40 : n ≤ 40) (hN : N < 2147483648) : Met l yX2_lessThanBefore [Cond.code yX2_lessThanBefore cX2_lessThanBefore 6 (some .long)] { frames := 1, cells := 0, slots := 0, locals := 21 } (WP [.ref (ad L), .ref (ad B)] D cy z0 ad V) (vp_Sl (fun r => r = lbL n f (M 2) n)) 0 0 (fun _ => False) := by
  refine met_of (by decide) (Nat.le_of_ble_eq_true rfl) (fun p e s m below meth c hx hb hr hml hown hlocks hnm hK hz hW ls hl => ?_)
  have hown : s.vm.findClass RX2 = some m.cls := hown
  have hl : lv_has ls 6 [(0, .ref (ad L)), (1, .ref (ad B))] := hl
  obtain ⟨hT0, hT1, hTr⟩ := id hT
  have hTr2 := hTr 2 (by omega)
  refine lv_lconst (v := 0) hx hb dX2_lessThanBefore_0 (by decide) ?_
  refine lv_lstore_n (lv' := [(2, .long (0)), (0, .ref (ad L)), (1, .ref (ad B))]) hx hb dX2_lessThanBefore_1 rfl hl (by decide) rfl (fun ls hl => ?_)
  refine lv_iconst (v := nI 0) hx hb dX2_lessThanBefore_2 (by decide) ?_
  refine lv_istore (lv' := [(4, .int (nI 0)), (2, .long (0)), (0, .ref (ad L)), (1, .ref (ad B))]) hx hb dX2_lessThanBefore_3 hl (by decide) rfl (fun ls hl => ?_)
  refine wl (ι := Nat) (fun i => n - i) (fun i g => (i ≤ n) ∧ ∃ ls, g = F0 m 5 ls [] ∧ lv_has ls 6 [(0, .ref (ad L)), (1, .ref (ad B)), (2, .long (lbL n f (M 2) i)), (4, .int (nI i))]) ?_ (0) _ ⟨Nat.zero_le _, ls, rfl, lv_sub hl [2, 3, 1, 0] rfl⟩
  intro i g hg ih
  obtain ⟨hi, ls, rfl, hl⟩ := hg
  refine lv_iload hx hb dX2_lessThanBefore_5 (lv_at hl 3 rfl) ?_
  refine lv_aload_n hx hb dX2_lessThanBefore_7 rfl (lv_at hl 1 rfl) ?_
  refine g_X2_X5_objects hx hb hown hK hW hT0 dX2_lessThanBefore_8 ?_
  refine lv_icmp_ge (tgt := 63) hx hb dX2_lessThanBefore_11 (by decide) (fun c11 => ?_) (fun c11 => ?_)
  · skip
    have c11 := nI_le' c11 (by omega) (by omega)
    refine lv_lload_n hx hb dX2_lessThanBefore_63 rfl (lv_at hl 2 rfl) ?_
    exact rl hx hb hr hlocks dX2_lessThanBefore_64 (by have e9 : i = n := (by omega); rw [e9])
  · skip
    have c11 := nI_nle' c11 (by omega) (by omega)
    refine lv_aload_n hx hb dX2_lessThanBefore_14 rfl (lv_at hl 1 rfl) ?_
    refine g_X2_X5_rows hx hb hown hK hW hT0 dX2_lessThanBefore_15 ?_
    refine lv_iconst (v := nI 2) hx hb dX2_lessThanBefore_18 (by decide) ?_
    refine w_aald hx hb hK hW 3 rfl rfl hT1 (j := 2) (rfl) (by omega) (by omega) dX2_lessThanBefore_19 ?_
    refine asv (y := .ref (ad (B + 2 + 2))) (el4 (by omega)) ?_
    refine lv_iload hx hb dX2_lessThanBefore_20 (lv_at hl 3 rfl) ?_
    refine w_iald hx hb hK hW hTr2 (j := i) (rfl) (by omega) (by omega) dX2_lessThanBefore_22 ?_
    refine lv_istore (lv' := [(5, .int ((M 2) i)), (0, .ref (ad L)), (1, .ref (ad B)), (2, .long (lbL n f (M 2) i)), (4, .int (nI i))]) hx hb dX2_lessThanBefore_23 hl (by decide) rfl (fun ls hl => ?_)
    refine lv_lload_n hx hb dX2_lessThanBefore_25 rfl (lv_at hl 3 rfl) ?_
    refine jl (pcj := 51) (st := [.int (b2i (hasB n (M 2 i) && decide (¬ f (M 2 i).toNatClampNeg ≤ f i))), .long (lbL n f (M 2) i)]) (nL := 6) (lv := [(5, .int ((M 2) i)), (0, .ref (ad L)), (1, .ref (ad B)), (2, .long (lbL n f (M 2) i)), (4, .int (nI i))]) (fun K => ?_) (fun ls hl => ?_)
    · skip
      refine lv_aload_n hx hb dX2_lessThanBefore_26 rfl (lv_at hl 2 rfl) ?_
      refine lv_iload hx hb dX2_lessThanBefore_27 (lv_at hl 0 rfl) ?_
      refine vp_callSi (va_Run.run (va_runV (As := [.int ((M 2) i)]) (rest := [.long (lbL n f (M 2) i)]) ⟨hx, hb, hml, hown, hK.1.use _⟩ (c_X5_has l D cy z0 ad V B n M (M 2 i) hT) (k_X2_X5_has hK.1 rfl rfl ⟨Nat.le_of_ble_eq_true rfl, Nat.le_of_ble_eq_true rfl⟩) (preV hK hz hW hT0 rfl) rfl rfl hl.1 rfl (lv_room (Nat.le_of_ble_eq_true rfl)) dX2_lessThanBefore_29 ⟨Nat.le_of_ble_eq_true rfl, Nat.le_of_ble_eq_true rfl⟩)) (fun r29 h29 => ?_)
      have h29 : r29 = b2i (hasB n (M 2 i)) := h29
      subst h29
      refine lv_if_eq (tgt := 50) hx hb dX2_lessThanBefore_32 (by decide) (fun c32 => ?_) (fun c32 => ?_)
      · skip
        have c32 := b2i_0.mp c32
        refine lv_iconst (v := nI 0) hx hb dX2_lessThanBefore_50 (by decide) ?_
        refine asi (y := b2i (hasB n (M 2 i) && decide (¬ f (M 2 i).toNatClampNeg ≤ f i))) (by first | (simp [b2i, nI, c32]; done) | (simp [b2i, nI, c32, c43]; done)) ?_
        exact K ls (lv_sub hl [0, 1, 2, 3, 4] rfl)
      · skip
        have c32 := b2i_1.mp c32
        have hb9 := hasB_of c32 (by omega)
        refine lv_aload_n hx hb dX2_lessThanBefore_35 rfl (lv_at hl 1 rfl) ?_
        refine lv_iload hx hb dX2_lessThanBefore_36 (lv_at hl 0 rfl) ?_
        refine w_iald hx hb hK hW hV (j := (M 2 i).toNatClampNeg) (hb9.1) (by omega) (by omega) dX2_lessThanBefore_38 ?_
        refine lv_aload_n hx hb dX2_lessThanBefore_39 rfl (lv_at hl 1 rfl) ?_
        refine lv_iload hx hb dX2_lessThanBefore_40 (lv_at hl 4 rfl) ?_
        refine w_iald hx hb hK hW hV (j := i) (rfl) (by omega) (by omega) dX2_lessThanBefore_42 ?_
        refine lv_icmp_le (tgt := 50) hx hb dX2_lessThanBefore_43 (by decide) (fun c43 => ?_) (fun c43 => ?_)
        · skip
          refine lv_iconst (v := nI 0) hx hb dX2_lessThanBefore_50 (by decide) ?_
          refine asi (y := b2i (hasB n (M 2 i) && decide (¬ f (M 2 i).toNatClampNeg ≤ f i))) (by first | (simp [b2i, nI, c32]; done) | (simp [b2i, nI, c32, c43]; done)) ?_
          exact K ls (lv_sub hl [0, 1, 2, 3, 4] rfl)
        · skip
          refine lv_iconst (v := nI 1) hx hb dX2_lessThanBefore_46 (by decide) ?_
          refine lv_goto (tgt := 51) hx hb dX2_lessThanBefore_47 (by decide) ?_
          refine asi (y := b2i (hasB n (M 2 i) && decide (¬ f (M 2 i).toNatClampNeg ≤ f i))) (by first | (simp [b2i, nI, c32]; done) | (simp [b2i, nI, c32, c43]; done)) ?_
          exact K ls (lv_sub hl [0, 1, 2, 3, 4] rfl)
    · skip
      refine vp_callSi (va_Run.run (va_runSN (As := [.int (b2i (hasB n (M 2 i) && decide (¬ f (M 2 i).toNatClampNeg ≤ f i)))]) (rest := [.long (lbL n f (M 2) i)]) ⟨hx, hb, hml, hown, hK.1.use _⟩ (c_X6_oneIf l D cy z0 ad V (hasB n (M 2 i) && decide (¬ f (M 2 i).toNatClampNeg ≤ f i))) (k_X2_X6_oneIf hK.1 rfl rfl ⟨Nat.le_of_ble_eq_true rfl, Nat.le_of_ble_eq_true rfl⟩) (preS hK hz hW) rfl rfl hl.1 rfl (lv_room (Nat.le_of_ble_eq_true rfl)) dX2_lessThanBefore_51 ⟨Nat.le_of_ble_eq_true rfl, Nat.le_of_ble_eq_true rfl⟩)) (fun r51 h51 => ?_)
      have h51 : r51 = b2i (hasB n (M 2 i) && decide (¬ f (M 2 i).toNatClampNeg ≤ f i)) := h51
      subst h51
      refine lv_i2l (v := (b2i (hasB n (M 2 i) && decide (¬ f (M 2 i).toNatClampNeg ≤ f i))).toInt64) hx hb dX2_lessThanBefore_54 rfl ?_
      refine lv_ladd hx hb dX2_lessThanBefore_55 ?_
      refine asl (y := lbL n f (M 2) (i + 1)) (rfl) ?_
      refine lv_lstore_n (lv' := [(2, .long (lbL n f (M 2) (i + 1))), (5, .int ((M 2) i)), (0, .ref (ad L)), (1, .ref (ad B)), (4, .int (nI i))]) hx hb dX2_lessThanBefore_56 rfl hl (by decide) rfl (fun ls hl => ?_)
      refine lv_iinc (v := nI (i + 1)) (lv' := [(4, .int (nI (i + 1))), (2, .long (lbL n f (M 2) (i + 1))), (5, .int ((M 2) i)), (0, .ref (ad L)), (1, .ref (ad B))]) hx hb dX2_lessThanBefore_57 hl (k := 4) rfl (by rw [show Int32.ofInt 1 = nI 1 from by decide]; exact nI_add _ _) (by decide) rfl (fun ls hl => ?_)
      refine lv_goto (tgt := 5) hx hb dX2_lessThanBefore_60 (by decide) ?_
      exact ih (i + 1) _ ⟨by omega, ls, rfl, lv_sub hl [3, 4, 1, 0] rfl⟩ (by omega)
end
section
set_option maxHeartbeats 4000000 in
set_option maxRecDepth 100000 in
theorem c_X2_countTouched (l : Launch) (D : va_G) (cy : Nat → ClassId) (z0 : Nat) (ad : Nat → Nat) (V : Nat → Option va_E) (LR kd lk : Nat) (bd wt lv : Int32) (hR : isR V LR kd lk bd wt lv) (hkd : kd < 6) (hlk : lk < 4) (B n : Nat) (M : Nat → Nat → Int32) (hT : isT ad V cy B n M) (B2 n2 : Nat) (M2 : Nat → Nat → Int32) (hU : isT ad V cy B2 n2 M2) (hn40 : n ≤ 40) : Met l yX2_countTouched [Cond.code yX2_countTouched cX2_countTouched 7 (some .int)] { frames := 1, cells := 0, slots := 0, locals := 20 } (WP [.ref (ad LR), .ref (ad B), .ref (ad B2)] D cy z0 ad V) (vp_Si (fun r => r = nI (ctT kd (M lk) (M2 lk) (M 2) (M2 2) n))) 0 0 (fun _ => False) := by
  refine met_of (by decide) (Nat.le_of_ble_eq_true rfl) (fun p e s m below meth c hx hb hr hml hown hlocks hnm hK hz hW ls hl => ?_)
  have hown : s.vm.findClass RX2 = some m.cls := hown
  have hl : lv_has ls 7 [(0, .ref (ad LR)), (1, .ref (ad B)), (2, .ref (ad B2))] := hl
  obtain ⟨hT0, hT1, hTr⟩ := id hT
  have hTrlk := hTr lk (by omega)
  have hTr2 := hTr 2 (by omega)
  obtain ⟨hU0, hU1, hUr⟩ := id hU
  have hUrlk := hUr lk (by omega)
  have hUr2 := hUr 2 (by omega)
  refine lv_iconst (v := nI 0) hx hb dX2_countTouched_0 (by decide) ?_
  refine lv_istore_n (lv' := [(3, .int (nI 0)), (0, .ref (ad LR)), (1, .ref (ad B)), (2, .ref (ad B2))]) hx hb dX2_countTouched_1 rfl hl (by decide) rfl (fun ls hl => ?_)
  refine lv_iconst (v := nI 0) hx hb dX2_countTouched_2 (by decide) ?_
  refine lv_istore (lv' := [(4, .int (nI 0)), (3, .int (nI 0)), (0, .ref (ad LR)), (1, .ref (ad B)), (2, .ref (ad B2))]) hx hb dX2_countTouched_3 hl (by decide) rfl (fun ls hl => ?_)
  refine wl (ι := Nat) (fun i => n - i) (fun i g => (i ≤ n) ∧ ∃ ls, g = F0 m 5 ls [] ∧ lv_has ls 7 [(0, .ref (ad LR)), (1, .ref (ad B)), (2, .ref (ad B2)), (3, .int (nI (ctT kd (M lk) (M2 lk) (M 2) (M2 2) i))), (4, .int (nI i))]) ?_ (0) _ ⟨Nat.zero_le _, ls, rfl, lv_sub hl [2, 3, 4, 1, 0] rfl⟩
  intro i g hg ih
  obtain ⟨hi, ls, rfl, hl⟩ := hg
  refine lv_iload hx hb dX2_countTouched_5 (lv_at hl 4 rfl) ?_
  refine lv_aload_n hx hb dX2_countTouched_7 rfl (lv_at hl 1 rfl) ?_
  refine g_X2_X5_objects hx hb hown hK hW hT0 dX2_countTouched_8 ?_
  refine lv_icmp_ge (tgt := 111) hx hb dX2_countTouched_11 (by decide) (fun c11 => ?_) (fun c11 => ?_)
  · skip
    have c11 := nI_le' c11 (by omega) (by omega)
    refine lv_iload_n hx hb dX2_countTouched_111 rfl (lv_at hl 3 rfl) ?_
    exact ri hx hb hr hlocks dX2_countTouched_112 (by have e9 : i = n := (by omega); rw [e9])
  · skip
    have c11 := nI_nle' c11 (by omega) (by omega)
    refine jl (pcj := 46) (st := [.int (b2i (decide (¬ M lk i = M2 lk i)))]) (nL := 7) (lv := [(0, .ref (ad LR)), (1, .ref (ad B)), (2, .ref (ad B2)), (3, .int (nI (ctT kd (M lk) (M2 lk) (M 2) (M2 2) i))), (4, .int (nI i))]) (fun K => ?_) (fun ls hl => ?_)
    · skip
      refine lv_aload_n hx hb dX2_countTouched_14 rfl (lv_at hl 1 rfl) ?_
      refine g_X2_X5_rows hx hb hown hK hW hT0 dX2_countTouched_15 ?_
      refine lv_aload_n hx hb dX2_countTouched_18 rfl (lv_at hl 0 rfl) ?_
      refine g_X2_X2_looksAt hx hb hown hK hW hR dX2_countTouched_19 ?_
      refine w_aald hx hb hK hW 3 rfl rfl hT1 (j := lk) (rfl) (by omega) (by omega) dX2_countTouched_22 ?_
      refine asv (y := .ref (ad (B + 2 + lk))) (el4 (by omega)) ?_
      refine lv_iload hx hb dX2_countTouched_23 (lv_at hl 4 rfl) ?_
      refine w_iald hx hb hK hW hTrlk (j := i) (rfl) (by omega) (by omega) dX2_countTouched_25 ?_
      refine lv_aload_n hx hb dX2_countTouched_26 rfl (lv_at hl 2 rfl) ?_
      refine g_X2_X5_rows hx hb hown hK hW hU0 dX2_countTouched_27 ?_
      refine lv_aload_n hx hb dX2_countTouched_30 rfl (lv_at hl 0 rfl) ?_
      refine g_X2_X2_looksAt hx hb hown hK hW hR dX2_countTouched_31 ?_
      refine w_aald hx hb hK hW 3 rfl rfl hU1 (j := lk) (rfl) (by omega) (by omega) dX2_countTouched_34 ?_
      refine asv (y := .ref (ad (B2 + 2 + lk))) (el4 (by omega)) ?_
      refine lv_iload hx hb dX2_countTouched_35 (lv_at hl 4 rfl) ?_
      refine w_iald hx hb hK hW hUrlk (j := i) (rfl) (by omega) (by omega) dX2_countTouched_37 ?_
      refine lv_icmp_eq (tgt := 45) hx hb dX2_countTouched_38 (by decide) (fun c38 => ?_) (fun c38 => ?_)
      · skip
        refine lv_iconst (v := nI 0) hx hb dX2_countTouched_45 (by decide) ?_
        refine asi (y := b2i (decide (¬ M lk i = M2 lk i))) (by simp [b2i, nI, c38]) ?_
        exact K ls (lv_sub hl [0, 1, 2, 3, 4] rfl)
      · skip
        refine lv_iconst (v := nI 1) hx hb dX2_countTouched_41 (by decide) ?_
        refine lv_goto (tgt := 46) hx hb dX2_countTouched_42 (by decide) ?_
        refine asi (y := b2i (decide (¬ M lk i = M2 lk i))) (by simp [b2i, nI, c38]) ?_
        exact K ls (lv_sub hl [0, 1, 2, 3, 4] rfl)
    · skip
      refine lv_istore (lv' := [(5, .int (b2i (decide (¬ M lk i = M2 lk i)))), (0, .ref (ad LR)), (1, .ref (ad B)), (2, .ref (ad B2)), (3, .int (nI (ctT kd (M lk) (M2 lk) (M 2) (M2 2) i))), (4, .int (nI i))]) hx hb dX2_countTouched_46 hl (by decide) rfl (fun ls hl => ?_)
      refine jl (pcj := 82) (st := [.int (b2i (decide (kd = 5 ∧ ¬ M 2 i = M2 2 i)))]) (nL := 7) (lv := [(5, .int (b2i (decide (¬ M lk i = M2 lk i)))), (0, .ref (ad LR)), (1, .ref (ad B)), (2, .ref (ad B2)), (3, .int (nI (ctT kd (M lk) (M2 lk) (M 2) (M2 2) i))), (4, .int (nI i))]) (fun K => ?_) (fun ls hl => ?_)
      · skip
        refine lv_aload_n hx hb dX2_countTouched_48 rfl (lv_at hl 1 rfl) ?_
        refine g_X2_X2_kind hx hb hown hK hW hR dX2_countTouched_49 ?_
        refine lv_iconst (v := nI 5) hx hb dX2_countTouched_52 (by decide) ?_
        refine lv_icmp_ne (tgt := 81) hx hb dX2_countTouched_53 (by decide) (fun c53 => ?_) (fun c53 => ?_)
        · skip
          have c53 := nI_ne' c53 (by omega) (by omega)
          refine lv_iconst (v := nI 0) hx hb dX2_countTouched_81 (by decide) ?_
          refine asi (y := b2i (decide (kd = 5 ∧ ¬ M 2 i = M2 2 i))) (by first | (simp [b2i, nI, c53]; done) | (simp [b2i, nI, c53, c74]; done)) ?_
          exact K ls (lv_sub hl [0, 1, 2, 3, 4, 5] rfl)
        · skip
          have c53 := nI_eq' c53 (by omega) (by omega)
          refine lv_aload_n hx hb dX2_countTouched_56 rfl (lv_at hl 2 rfl) ?_
          refine g_X2_X5_rows hx hb hown hK hW hT0 dX2_countTouched_57 ?_
          refine lv_iconst (v := nI 2) hx hb dX2_countTouched_60 (by decide) ?_
          refine w_aald hx hb hK hW 3 rfl rfl hT1 (j := 2) (rfl) (by omega) (by omega) dX2_countTouched_61 ?_
          refine asv (y := .ref (ad (B + 2 + 2))) (el4 (by omega)) ?_
          refine lv_iload hx hb dX2_countTouched_62 (lv_at hl 5 rfl) ?_
          refine w_iald hx hb hK hW hTr2 (j := i) (rfl) (by omega) (by omega) dX2_countTouched_64 ?_
          refine lv_aload_n hx hb dX2_countTouched_65 rfl (lv_at hl 3 rfl) ?_
          refine g_X2_X5_rows hx hb hown hK hW hU0 dX2_countTouched_66 ?_
          refine lv_iconst (v := nI 2) hx hb dX2_countTouched_69 (by decide) ?_
          refine w_aald hx hb hK hW 3 rfl rfl hU1 (j := 2) (rfl) (by omega) (by omega) dX2_countTouched_70 ?_
          refine asv (y := .ref (ad (B2 + 2 + 2))) (el4 (by omega)) ?_
          refine lv_iload hx hb dX2_countTouched_71 (lv_at hl 5 rfl) ?_
          refine w_iald hx hb hK hW hUr2 (j := i) (rfl) (by omega) (by omega) dX2_countTouched_73 ?_
          refine lv_icmp_eq (tgt := 81) hx hb dX2_countTouched_74 (by decide) (fun c74 => ?_) (fun c74 => ?_)
          · skip
            refine lv_iconst (v := nI 0) hx hb dX2_countTouched_81 (by decide) ?_
            refine asi (y := b2i (decide (kd = 5 ∧ ¬ M 2 i = M2 2 i))) (by first | (simp [b2i, nI, c53]; done) | (simp [b2i, nI, c53, c74]; done)) ?_
            exact K ls (lv_sub hl [0, 1, 2, 3, 4, 5] rfl)
          · skip
            refine lv_iconst (v := nI 1) hx hb dX2_countTouched_77 (by decide) ?_
            refine lv_goto (tgt := 82) hx hb dX2_countTouched_78 (by decide) ?_
            refine asi (y := b2i (decide (kd = 5 ∧ ¬ M 2 i = M2 2 i))) (by first | (simp [b2i, nI, c53]; done) | (simp [b2i, nI, c53, c74]; done)) ?_
            exact K ls (lv_sub hl [0, 1, 2, 3, 4, 5] rfl)
      · skip
        refine lv_istore (lv' := [(6, .int (b2i (decide (kd = 5 ∧ ¬ M 2 i = M2 2 i)))), (5, .int (b2i (decide (¬ M lk i = M2 lk i)))), (0, .ref (ad LR)), (1, .ref (ad B)), (2, .ref (ad B2)), (3, .int (nI (ctT kd (M lk) (M2 lk) (M 2) (M2 2) i))), (4, .int (nI i))]) hx hb dX2_countTouched_82 hl (by decide) rfl (fun ls hl => ?_)
        refine lv_iload_n hx hb dX2_countTouched_84 rfl (lv_at hl 5 rfl) ?_
        refine jl (pcj := 100) (st := [.int (b2i (decide (¬ M lk i = M2 lk i) || decide (kd = 5 ∧ ¬ M 2 i = M2 2 i))), .int (nI (ctT kd (M lk) (M2 lk) (M 2) (M2 2) i))]) (nL := 7) (lv := [(6, .int (b2i (decide (kd = 5 ∧ ¬ M 2 i = M2 2 i)))), (5, .int (b2i (decide (¬ M lk i = M2 lk i)))), (0, .ref (ad LR)), (1, .ref (ad B)), (2, .ref (ad B2)), (3, .int (nI (ctT kd (M lk) (M2 lk) (M 2) (M2 2) i))), (4, .int (nI i))]) (fun K => ?_) (fun ls hl => ?_)
        · skip
          refine lv_iload hx hb dX2_countTouched_85 (lv_at hl 1 rfl) ?_
          refine lv_if_ne (tgt := 95) hx hb dX2_countTouched_87 (by decide) (fun c87 => ?_) (fun c87 => ?_)
          · skip
            have c87 := b2i_1.mp c87
            refine lv_iconst (v := nI 1) hx hb dX2_countTouched_95 (by decide) ?_
            refine lv_goto (tgt := 100) hx hb dX2_countTouched_96 (by decide) ?_
            refine asi (y := b2i (decide (¬ M lk i = M2 lk i) || decide (kd = 5 ∧ ¬ M 2 i = M2 2 i))) (by first | (rw [c87]; rfl) | (rw [c87, c92]; rfl)) ?_
            exact K ls (lv_sub hl [0, 1, 2, 3, 4, 5, 6] rfl)
          · skip
            have c87 := b2i_0.mp c87
            refine lv_iload hx hb dX2_countTouched_90 (lv_at hl 0 rfl) ?_
            refine lv_if_eq (tgt := 99) hx hb dX2_countTouched_92 (by decide) (fun c92 => ?_) (fun c92 => ?_)
            · skip
              have c92 := b2i_0.mp c92
              refine lv_iconst (v := nI 0) hx hb dX2_countTouched_99 (by decide) ?_
              refine asi (y := b2i (decide (¬ M lk i = M2 lk i) || decide (kd = 5 ∧ ¬ M 2 i = M2 2 i))) (by first | (rw [c87]; rfl) | (rw [c87, c92]; rfl)) ?_
              exact K ls (lv_sub hl [0, 1, 2, 3, 4, 5, 6] rfl)
            · skip
              have c92 := b2i_1.mp c92
              refine lv_iconst (v := nI 1) hx hb dX2_countTouched_95 (by decide) ?_
              refine lv_goto (tgt := 100) hx hb dX2_countTouched_96 (by decide) ?_
              refine asi (y := b2i (decide (¬ M lk i = M2 lk i) || decide (kd = 5 ∧ ¬ M 2 i = M2 2 i))) (by first | (rw [c87]; rfl) | (rw [c87, c92]; rfl)) ?_
              exact K ls (lv_sub hl [0, 1, 2, 3, 4, 5, 6] rfl)
        · skip
          refine vp_callSi (va_Run.run (va_runSN (As := [.int (b2i (decide (¬ M lk i = M2 lk i) || decide (kd = 5 ∧ ¬ M 2 i = M2 2 i)))]) (rest := [.int (nI (ctT kd (M lk) (M2 lk) (M 2) (M2 2) i))]) ⟨hx, hb, hml, hown, hK.1.use _⟩ (c_X6_oneIf l D cy z0 ad V (decide (¬ M lk i = M2 lk i) || decide (kd = 5 ∧ ¬ M 2 i = M2 2 i))) (k_X2_X6_oneIf hK.1 rfl rfl ⟨Nat.le_of_ble_eq_true rfl, Nat.le_of_ble_eq_true rfl⟩) (preS hK hz hW) rfl rfl hl.1 rfl (lv_room (Nat.le_of_ble_eq_true rfl)) dX2_countTouched_100 ⟨Nat.le_of_ble_eq_true rfl, Nat.le_of_ble_eq_true rfl⟩)) (fun r100 h100 => ?_)
          have h100 : r100 = b2i (decide (¬ M lk i = M2 lk i) || decide (kd = 5 ∧ ¬ M 2 i = M2 2 i)) := h100
          subst h100
          refine lv_iadd hx hb dX2_countTouched_103 ?_
          refine asi (y := nI (ctT kd (M lk) (M2 lk) (M 2) (M2 2) (i + 1))) (by simp only [ctT]; rw [← nI_add]; congr 1; by_cases h1 : M lk i = M2 lk i <;> by_cases h2 : kd = 5 ∧ ¬ M 2 i = M2 2 i <;> simp [h1, h2, b2i, nI]) ?_
          refine lv_istore_n (lv' := [(3, .int (nI (ctT kd (M lk) (M2 lk) (M 2) (M2 2) (i + 1)))), (6, .int (b2i (decide (kd = 5 ∧ ¬ M 2 i = M2 2 i)))), (5, .int (b2i (decide (¬ M lk i = M2 lk i)))), (0, .ref (ad LR)), (1, .ref (ad B)), (2, .ref (ad B2)), (4, .int (nI i))]) hx hb dX2_countTouched_104 rfl hl (by decide) rfl (fun ls hl => ?_)
          refine lv_iinc (v := nI (i + 1)) (lv' := [(4, .int (nI (i + 1))), (3, .int (nI (ctT kd (M lk) (M2 lk) (M 2) (M2 2) (i + 1)))), (6, .int (b2i (decide (kd = 5 ∧ ¬ M 2 i = M2 2 i)))), (5, .int (b2i (decide (¬ M lk i = M2 lk i)))), (0, .ref (ad LR)), (1, .ref (ad B)), (2, .ref (ad B2))]) hx hb dX2_countTouched_105 hl (k := 6) rfl (by rw [show Int32.ofInt 1 = nI 1 from by decide]; exact nI_add _ _) (by decide) rfl (fun ls hl => ?_)
          refine lv_goto (tgt := 5) hx hb dX2_countTouched_108 (by decide) ?_
          exact ih (i + 1) _ ⟨by omega, ls, rfl, lv_sub hl [4, 5, 6, 1, 0] rfl⟩ (by omega)

set_option maxHeartbeats 4000000 in
set_option maxRecDepth 100000 in
theorem c_X2_fromNothing (l : Launch) (D : va_G) (cy : Nat → ClassId) (z0 : Nat) (ad : Nat → Nat) (V : Nat → Option va_E) (LR kd lk : Nat) (bd wt lv : Int32) (hR : isR V LR kd lk bd wt lv) (hkd : kd < 6) (hlk : lk < 4) (B n : Nat) (M : Nat → Nat → Int32) (hT : isT ad V cy B n M) (hn40 : n ≤ 40) : Met l yX2_fromNothing [Cond.code yX2_fromNothing cX2_fromNothing 4 (some .long)] { frames := 2, cells := 0, slots := 0, locals := 52 } (WP [.ref (ad LR), .ref (ad B)] D cy z0 ad V) (vp_Sl (fun r => r = wth kd bd wt (M lk) (M 2) n)) 0 0 (fun _ => False) := by
  refine met_of (by decide) (Nat.le_of_ble_eq_true rfl) (fun p e s m below meth c hx hb hr hml hown hlocks hnm hK hz hW ls hl => ?_)
  have hown : s.vm.findClass RX2 = some m.cls := hown
  have hl : lv_has ls 4 [(0, .ref (ad LR)), (1, .ref (ad B))] := hl
  obtain ⟨hT0, hT1, hTr⟩ := id hT
  have hTrlk := hTr lk (by omega)
  refine lv_aload_n hx hb dX2_fromNothing_0 rfl (lv_at hl 1 rfl) ?_
  refine g_X2_X5_rows hx hb hown hK hW hT0 dX2_fromNothing_1 ?_
  refine lv_aload_n hx hb dX2_fromNothing_4 rfl (lv_at hl 0 rfl) ?_
  refine g_X2_X2_looksAt hx hb hown hK hW hR dX2_fromNothing_5 ?_
  refine w_aald hx hb hK hW 3 rfl rfl hT1 (j := lk) (rfl) (by omega) (by omega) dX2_fromNothing_8 ?_
  refine asv (y := .ref (ad (B + 2 + lk))) (el4 (by omega)) ?_
  refine lv_astore_n (lv' := [(2, .ref (ad (B + 2 + lk))), (0, .ref (ad LR)), (1, .ref (ad B))]) hx hb dX2_fromNothing_9 rfl hl (by decide) rfl (fun ls hl => ?_)
  refine lv_aload_n hx hb dX2_fromNothing_10 rfl (lv_at hl 2 rfl) ?_
  refine g_X2_X5_objects hx hb hown hK hW hT0 dX2_fromNothing_11 ?_
  refine lv_istore_n (lv' := [(3, .int (nI n)), (2, .ref (ad (B + 2 + lk))), (0, .ref (ad LR)), (1, .ref (ad B))]) hx hb dX2_fromNothing_14 rfl hl (by decide) rfl (fun ls hl => ?_)
  refine lv_aload_n hx hb dX2_fromNothing_15 rfl (lv_at hl 2 rfl) ?_
  refine g_X2_X2_kind hx hb hown hK hW hR dX2_fromNothing_16 ?_
  have hq6 : kd = 0 ∨ kd = 1 ∨ kd = 2 ∨ kd = 3 ∨ kd = 4 ∨ kd = 5 := by omega
  rcases hq6 with hq | hq | hq | hq | hq | hq
  · skip
    refine asi (y := nI 0) (by rw [hq]) ?_
    refine lv_tableIn (off := 33) (tgt := 52) hx hb dX2_fromNothing_19 (by decide) (by decide) (by decide) (by decide) ?_
    refine lv_aload_n hx hb dX2_fromNothing_52 rfl (lv_at hl 2 rfl) ?_
    refine g_X2_X2_weight hx hb hown hK hW hR dX2_fromNothing_53 ?_
    refine lv_i2l (v := wt.toInt64) hx hb dX2_fromNothing_56 rfl ?_
    refine lv_aload_n hx hb dX2_fromNothing_57 rfl (lv_at hl 2 rfl) ?_
    refine lv_aload_n hx hb dX2_fromNothing_58 rfl (lv_at hl 1 rfl) ?_
    refine lv_iload_n hx hb dX2_fromNothing_59 rfl (lv_at hl 0 rfl) ?_
    refine vp_callSl (va_Run.run (va_runV (As := [.ref (ad (B + 2 + lk)), .int (nI n)]) (rest := [.long (wt.toInt64)]) ⟨hx, hb, hml, hown, hK.1.use _⟩ (c_X2_eachAbove l D cy z0 ad V LR kd lk bd wt lv hR (B + 2 + lk) 40 n (M lk) hTrlk (by omega) (by omega)) (k_X2_X2_eachAbove hK.1 rfl rfl ⟨Nat.le_of_ble_eq_true rfl, Nat.le_of_ble_eq_true rfl⟩) (preV hK hz hW hR rfl) rfl rfl hl.1 rfl (lv_room (Nat.le_of_ble_eq_true rfl)) dX2_fromNothing_60 ⟨Nat.le_of_ble_eq_true rfl, Nat.le_of_ble_eq_true rfl⟩)) (fun r60 h60 => ?_)
    have h60 : r60 = eaL (M lk) bd n := h60
    subst h60
    refine lv_lmul hx hb dX2_fromNothing_63 ?_
    exact rl hx hb hr hlocks dX2_fromNothing_64 (by simp [wth, hq])
  · skip
    refine asi (y := nI 1) (by rw [hq]) ?_
    refine lv_tableIn (off := 46) (tgt := 65) hx hb dX2_fromNothing_19 (by decide) (by decide) (by decide) (by decide) ?_
    refine lv_aload_n hx hb dX2_fromNothing_65 rfl (lv_at hl 2 rfl) ?_
    refine g_X2_X2_weight hx hb hown hK hW hR dX2_fromNothing_66 ?_
    refine lv_i2l (v := wt.toInt64) hx hb dX2_fromNothing_69 rfl ?_
    refine lv_lconst (v := 0) hx hb dX2_fromNothing_70 (by decide) ?_
    refine lv_aload_n hx hb dX2_fromNothing_71 rfl (lv_at hl 1 rfl) ?_
    refine lv_iload_n hx hb dX2_fromNothing_72 rfl (lv_at hl 0 rfl) ?_
    refine vp_callSl (va_Run.run (va_runS (As := [.ref (ad (B + 2 + lk)), .int (nI n)]) (rest := [.long (0), .long (wt.toInt64)]) ⟨hx, hb, hml, hown, hK.1.use _⟩ (c_X2_sum l D cy z0 ad V (B + 2 + lk) 40 n (M lk) hTrlk (by omega) (by omega)) (k_X2_X2_sum hK.1 rfl rfl ⟨Nat.le_of_ble_eq_true rfl, Nat.le_of_ble_eq_true rfl⟩) (preS hK hz hW) rfl rfl hl.1 rfl (lv_room (Nat.le_of_ble_eq_true rfl)) dX2_fromNothing_73 ⟨Nat.le_of_ble_eq_true rfl, Nat.le_of_ble_eq_true rfl⟩)) (fun r73 h73 => ?_)
    have h73 : r73 = sumL (M lk) n := h73
    subst h73
    refine lv_aload_n hx hb dX2_fromNothing_76 rfl (lv_at hl 2 rfl) ?_
    refine g_X2_X2_bound hx hb hown hK hW hR dX2_fromNothing_77 ?_
    refine lv_i2l (v := bd.toInt64) hx hb dX2_fromNothing_80 rfl ?_
    refine lv_lsub hx hb dX2_fromNothing_81 ?_
    refine k_X2_mmax_long hx hb (hml.trans hl.1.symm) hown hK (Nat.le_of_ble_eq_true rfl) (Nat.le_of_ble_eq_true rfl) (Nat.zero_le _) (Nat.zero_le _) dX2_fromNothing_82 ?_
    refine lv_lmul hx hb dX2_fromNothing_85 ?_
    exact rl hx hb hr hlocks dX2_fromNothing_86 (by simp [wth, hq])
  · skip
    refine asi (y := nI 2) (by rw [hq]) ?_
    refine lv_tableIn (off := 68) (tgt := 87) hx hb dX2_fromNothing_19 (by decide) (by decide) (by decide) (by decide) ?_
    refine lv_aload_n hx hb dX2_fromNothing_87 rfl (lv_at hl 2 rfl) ?_
    refine g_X2_X2_weight hx hb hown hK hW hR dX2_fromNothing_88 ?_
    refine lv_i2l (v := wt.toInt64) hx hb dX2_fromNothing_91 rfl ?_
    refine lv_aload_n hx hb dX2_fromNothing_92 rfl (lv_at hl 1 rfl) ?_
    refine lv_iload_n hx hb dX2_fromNothing_93 rfl (lv_at hl 0 rfl) ?_
    refine vp_callSl (va_Run.run (va_runS (As := [.ref (ad (B + 2 + lk)), .int (nI n)]) (rest := [.long (wt.toInt64)]) ⟨hx, hb, hml, hown, hK.1.use _⟩ (c_X2_sum l D cy z0 ad V (B + 2 + lk) 40 n (M lk) hTrlk (by omega) (by omega)) (k_X2_X2_sum hK.1 rfl rfl ⟨Nat.le_of_ble_eq_true rfl, Nat.le_of_ble_eq_true rfl⟩) (preS hK hz hW) rfl rfl hl.1 rfl (lv_room (Nat.le_of_ble_eq_true rfl)) dX2_fromNothing_94 ⟨Nat.le_of_ble_eq_true rfl, Nat.le_of_ble_eq_true rfl⟩)) (fun r94 h94 => ?_)
    have h94 : r94 = sumL (M lk) n := h94
    subst h94
    refine lv_aload_n hx hb dX2_fromNothing_97 rfl (lv_at hl 2 rfl) ?_
    refine g_X2_X2_bound hx hb hown hK hW hR dX2_fromNothing_98 ?_
    refine lv_i2l (v := bd.toInt64) hx hb dX2_fromNothing_101 rfl ?_
    refine lv_lsub hx hb dX2_fromNothing_102 ?_
    refine k_X2_mabs_long hx hb (hml.trans hl.1.symm) hown hK (Nat.le_of_ble_eq_true rfl) (Nat.le_of_ble_eq_true rfl) (Nat.zero_le _) (Nat.zero_le _) dX2_fromNothing_103 ?_
    refine lv_lmul hx hb dX2_fromNothing_106 ?_
    exact rl hx hb hr hlocks dX2_fromNothing_107 (by simp [wth, hq])
  · skip
    refine asi (y := nI 3) (by rw [hq]) ?_
    refine lv_tableIn (off := 89) (tgt := 108) hx hb dX2_fromNothing_19 (by decide) (by decide) (by decide) (by decide) ?_
    refine lv_aload_n hx hb dX2_fromNothing_108 rfl (lv_at hl 2 rfl) ?_
    refine g_X2_X2_weight hx hb hown hK hW hR dX2_fromNothing_109 ?_
    refine lv_i2l (v := wt.toInt64) hx hb dX2_fromNothing_112 rfl ?_
    refine lv_aload_n hx hb dX2_fromNothing_113 rfl (lv_at hl 1 rfl) ?_
    refine lv_iload_n hx hb dX2_fromNothing_114 rfl (lv_at hl 0 rfl) ?_
    refine vp_callSl (va_Run.run (va_runS (As := [.ref (ad (B + 2 + lk)), .int (nI n)]) (rest := [.long (wt.toInt64)]) ⟨hx, hb, hml, hown, hK.1.use _⟩ (c_X2_equalPairs l D cy z0 ad V (B + 2 + lk) 40 n (M lk) hTrlk (by omega) (by omega)) (k_X2_X2_equalPairs hK.1 rfl rfl ⟨Nat.le_of_ble_eq_true rfl, Nat.le_of_ble_eq_true rfl⟩) (preS hK hz hW) rfl rfl hl.1 rfl (lv_room (Nat.le_of_ble_eq_true rfl)) dX2_fromNothing_115 ⟨Nat.le_of_ble_eq_true rfl, Nat.le_of_ble_eq_true rfl⟩)) (fun r115 h115 => ?_)
    have h115 : r115 = epL (M lk) n := h115
    subst h115
    refine lv_lmul hx hb dX2_fromNothing_118 ?_
    exact rl hx hb hr hlocks dX2_fromNothing_119 (by simp [wth, hq])
  · skip
    refine asi (y := nI 4) (by rw [hq]) ?_
    refine lv_tableIn (off := 101) (tgt := 120) hx hb dX2_fromNothing_19 (by decide) (by decide) (by decide) (by decide) ?_
    refine lv_aload_n hx hb dX2_fromNothing_120 rfl (lv_at hl 2 rfl) ?_
    refine g_X2_X2_weight hx hb hown hK hW hR dX2_fromNothing_121 ?_
    refine lv_i2l (v := wt.toInt64) hx hb dX2_fromNothing_124 rfl ?_
    refine lv_aload_n hx hb dX2_fromNothing_125 rfl (lv_at hl 2 rfl) ?_
    refine lv_aload_n hx hb dX2_fromNothing_126 rfl (lv_at hl 1 rfl) ?_
    refine lv_iload_n hx hb dX2_fromNothing_127 rfl (lv_at hl 0 rfl) ?_
    refine vp_callSl (va_Run.run (va_runV (As := [.ref (ad (B + 2 + lk)), .int (nI n)]) (rest := [.long (wt.toInt64)]) ⟨hx, hb, hml, hown, hK.1.use _⟩ (c_X2_crowds l D cy z0 ad V LR kd lk bd wt lv hR (B + 2 + lk) 40 n (M lk) hTrlk (by omega) (by omega)) (k_X2_X2_crowds hK.1 rfl rfl ⟨Nat.le_of_ble_eq_true rfl, Nat.le_of_ble_eq_true rfl⟩) (preV hK hz hW hR rfl) rfl rfl hl.1 rfl (lv_room (Nat.le_of_ble_eq_true rfl)) dX2_fromNothing_128 ⟨Nat.le_of_ble_eq_true rfl, Nat.le_of_ble_eq_true rfl⟩)) (fun r128 h128 => ?_)
    have h128 : r128 = crL (M lk) (if nI 0 < bd then bd else nI 0) n n := h128
    subst h128
    refine lv_lmul hx hb dX2_fromNothing_131 ?_
    exact rl hx hb hr hlocks dX2_fromNothing_132 (by simp [wth, hq])
  · skip
    refine asi (y := nI 5) (by rw [hq]) ?_
    refine lv_tableOut (tgt := 133) hx hb dX2_fromNothing_19 (by decide) (by decide) ?_
    refine lv_aload_n hx hb dX2_fromNothing_133 rfl (lv_at hl 2 rfl) ?_
    refine g_X2_X2_weight hx hb hown hK hW hR dX2_fromNothing_134 ?_
    refine lv_i2l (v := wt.toInt64) hx hb dX2_fromNothing_137 rfl ?_
    refine lv_aload_n hx hb dX2_fromNothing_138 rfl (lv_at hl 1 rfl) ?_
    refine lv_aload_n hx hb dX2_fromNothing_139 rfl (lv_at hl 3 rfl) ?_
    refine vp_callSl (va_Run.run (va_runS (As := [.ref (ad (B + 2 + lk)), .ref (ad B)]) (rest := [.long (wt.toInt64)]) ⟨hx, hb, hml, hown, hK.1.use _⟩ (c_X2_lessThanBefore l D cy z0 ad V (B + 2 + lk) 40 (M lk) hTrlk B n M hT (by omega) (by omega) (by omega)) (k_X2_X2_lessThanBefore hK.1 rfl rfl ⟨Nat.le_of_ble_eq_true rfl, Nat.le_of_ble_eq_true rfl⟩) (preS hK hz hW) rfl rfl hl.1 rfl (lv_room (Nat.le_of_ble_eq_true rfl)) dX2_fromNothing_140 ⟨Nat.le_of_ble_eq_true rfl, Nat.le_of_ble_eq_true rfl⟩)) (fun r140 h140 => ?_)
    have h140 : r140 = lbL n (M lk) (M 2) n := h140
    subst h140
    refine lv_lmul hx hb dX2_fromNothing_143 ?_
    exact rl hx hb hr hlocks dX2_fromNothing_144 (by simp [wth, hq])

set_option maxHeartbeats 4000000 in
set_option maxRecDepth 100000 in
theorem c_X5_read (l : Launch) (D : va_G) (cy : Nat → ClassId) (z0 : Nat) (ad : Nat → Nat) (V : Nat → Option va_E) (B n : Nat) (M : Nat → Nat → Int32) (hT : isT ad V cy B n M) (hn40 : n ≤ 40) (o mm : Int32) : Met l yX5_read [Cond.code yX5_read cX5_read 3 (some .int)] { frames := 1, cells := 0, slots := 0, locals := 22 } (WP [.ref (ad B), .int (o), .int (mm)] D cy z0 ad V) (vp_Si (fun r => r = rdM n M o mm)) 0 0 (fun _ => False) := by
  refine met_of (by decide) (Nat.le_of_ble_eq_true rfl) (fun p e s m below meth c hx hb hr hml hown hlocks hnm hK hz hW ls hl => ?_)
  have hown : s.vm.findClass RX5 = some m.cls := hown
  have hl : lv_has ls 3 [(0, .ref (ad B)), (1, .int (o)), (2, .int (mm))] := hl
  obtain ⟨hT0, hT1, hTr⟩ := id hT
  refine lv_aload_n hx hb dX5_read_0 rfl (lv_at hl 0 rfl) ?_
  refine lv_iload_n hx hb dX5_read_1 rfl (lv_at hl 1 rfl) ?_
  refine vp_callSi (va_Run.run (va_runV (As := [.int (o)]) (rest := []) ⟨hx, hb, hml, hown, hK.1.use _⟩ (c_X5_has l D cy z0 ad V B n M o hT) (k_X5_X5_has hK.1 rfl rfl ⟨Nat.le_of_ble_eq_true rfl, Nat.le_of_ble_eq_true rfl⟩) (preV hK hz hW hT0 rfl) rfl rfl hl.1 rfl (lv_room (Nat.le_of_ble_eq_true rfl)) dX5_read_2 ⟨Nat.le_of_ble_eq_true rfl, Nat.le_of_ble_eq_true rfl⟩)) (fun r2 h2 => ?_)
  have h2 : r2 = b2i (hasB n o) := h2
  subst h2
  refine lv_if_eq (tgt := 28) hx hb dX5_read_5 (by decide) (fun c5 => ?_) (fun c5 => ?_)
  · skip
    have c5 := b2i_0.mp c5
    refine lv_ldc (v := -1000000) hx hb hown (hK.1.use _ _ tw_408) dX5_read_28 ?_
    exact ri hx hb hr hlocks dX5_read_30 (by first | (simp [rdM, c5]; done) | (simp [rdM, c5, c14]; done))
  · skip
    have c5 := b2i_1.mp c5
    have ho := hasB_of c5 (by omega)
    refine lv_iload_n hx hb dX5_read_8 rfl (lv_at hl 2 rfl) ?_
    refine lv_iconst (v := nI 0) hx hb dX5_read_9 (by decide) ?_
    refine lv_iconst (v := nI 3) hx hb dX5_read_10 (by decide) ?_
    refine vp_callSi (va_Run.run (va_runSN (As := [.int (mm), .int (nI 0), .int (nI 3)]) (rest := []) ⟨hx, hb, hml, hown, hK.1.use _⟩ (c_X6_within l D cy z0 ad V mm (nI 0) (nI 3)) (k_X5_X6_within hK.1 rfl rfl ⟨Nat.le_of_ble_eq_true rfl, Nat.le_of_ble_eq_true rfl⟩) (preS hK hz hW) rfl rfl hl.1 rfl (lv_room (Nat.le_of_ble_eq_true rfl)) dX5_read_11 ⟨Nat.le_of_ble_eq_true rfl, Nat.le_of_ble_eq_true rfl⟩)) (fun r11 h11 => ?_)
    have h11 : r11 = b2i (wiB mm (nI 0) (nI 3)) := h11
    subst h11
    refine lv_if_eq (tgt := 28) hx hb dX5_read_14 (by decide) (fun c14 => ?_) (fun c14 => ?_)
    · skip
      have c14 := b2i_0.mp c14
      refine lv_ldc (v := -1000000) hx hb hown (hK.1.use _ _ tw_408) dX5_read_28 ?_
      exact ri hx hb hr hlocks dX5_read_30 (by first | (simp [rdM, c5]; done) | (simp [rdM, c5, c14]; done))
    · skip
      have c14 := b2i_1.mp c14
      have hm := wiB_of (b := 3) c14 (by omega)
      have hTrm := hTr mm.toNatClampNeg (by omega)
      refine lv_aload_n hx hb dX5_read_17 rfl (lv_at hl 0 rfl) ?_
      refine g_X5_X5_rows hx hb hown hK hW hT0 dX5_read_18 ?_
      refine lv_iload_n hx hb dX5_read_21 rfl (lv_at hl 2 rfl) ?_
      refine w_aald hx hb hK hW 3 rfl rfl hT1 (j := mm.toNatClampNeg) (hm.1) (by omega) (by omega) dX5_read_22 ?_
      refine asv (y := .ref (ad (B + 2 + mm.toNatClampNeg))) (el4 (by omega)) ?_
      refine lv_iload_n hx hb dX5_read_23 rfl (lv_at hl 1 rfl) ?_
      refine w_iald hx hb hK hW hTrm (j := o.toNatClampNeg) (ho.1) (by omega) (by omega) dX5_read_24 ?_
      refine lv_goto (tgt := 30) hx hb dX5_read_25 (by decide) ?_
      exact ri hx hb hr hlocks dX5_read_30 (by first | (simp [rdM, c5]; done) | (simp [rdM, c5, c14]; done))

set_option maxHeartbeats 4000000 in
set_option maxRecDepth 100000 in
theorem c_X5_leads (l : Launch) (D : va_G) (cy : Nat → ClassId) (z0 : Nat) (ad : Nat → Nat) (V : Nat → Option va_E) (B n : Nat) (M : Nat → Nat → Int32) (hT : isT ad V cy B n M) (hn40 : n ≤ 40) (x0 t : Int32) : Met l yX5_leads [Cond.code yX5_leads cX5_leads 5 (some .boolean)] { frames := 1, cells := 0, slots := 0, locals := 21 } (WP [.ref (ad B), .int (x0), .int (t)] D cy z0 ad V) (vp_Si (fun r => r = b2i (ldB n (M 2) n x0 t))) 0 0 (fun _ => False) := by
  refine met_of (by decide) (Nat.le_of_ble_eq_true rfl) (fun p e s m below meth c hx hb hr hml hown hlocks hnm hK hz hW ls hl => ?_)
  have hown : s.vm.findClass RX5 = some m.cls := hown
  have hl : lv_has ls 5 [(0, .ref (ad B)), (1, .int (x0)), (2, .int (t))] := hl
  obtain ⟨hT0, hT1, hTr⟩ := id hT
  have hTr2 := hTr 2 (by omega)
  refine lv_iload_n hx hb dX5_leads_0 rfl (lv_at hl 1 rfl) ?_
  refine lv_istore_n (lv' := [(3, .int (x0)), (0, .ref (ad B)), (1, .int (x0)), (2, .int (t))]) hx hb dX5_leads_1 rfl hl (by decide) rfl (fun ls hl => ?_)
  refine lv_iconst (v := nI 0) hx hb dX5_leads_2 (by decide) ?_
  refine lv_istore (lv' := [(4, .int (nI 0)), (3, .int (x0)), (0, .ref (ad B)), (1, .int (x0)), (2, .int (t))]) hx hb dX5_leads_3 hl (by decide) rfl (fun ls hl => ?_)
  refine wl (ι := Nat × Int32) (fun q => n - q.1) (fun q g => (q.1 ≤ n ∧ ldB n (M 2) n x0 t = ldB n (M 2) (n - q.1) q.2 t) ∧ ∃ ls, g = F0 m 5 ls [] ∧ lv_has ls 5 [(0, .ref (ad B)), (2, .int (t)), (3, .int (q.2)), (4, .int (nI q.1))]) ?_ ((0, x0)) _ ⟨⟨Nat.zero_le _, rfl⟩, ls, rfl, lv_sub hl [2, 4, 1, 0] rfl⟩
  intro ⟨k, x⟩ g hg ih
  obtain ⟨⟨hi, he⟩, ls, rfl, hl⟩ := hg
  have hi : k ≤ n := hi
  have he : ldB n (M 2) n x0 t = ldB n (M 2) (n - k) x t := he
  have hl : lv_has ls 5 [(0, .ref (ad B)), (2, .int (t)), (3, .int (x)), (4, .int (nI k))] := hl
  refine lv_iload hx hb dX5_leads_5 (lv_at hl 3 rfl) ?_
  refine lv_aload_n hx hb dX5_leads_7 rfl (lv_at hl 0 rfl) ?_
  refine g_X5_X5_objects hx hb hown hK hW hT0 dX5_leads_8 ?_
  refine lv_icmp_ge (tgt := 44) hx hb dX5_leads_11 (by decide) (fun c11 => ?_) (fun c11 => ?_)
  · skip
    have c11 := nI_le' c11 (by omega) (by omega)
    refine lv_iconst (v := nI 0) hx hb dX5_leads_44 (by decide) ?_
    exact rz hx hb hr hlocks dX5_leads_45 (by first | exact b2i_n | rfl | decide) (by first | (rw [he, show n - k = 0 by omega]; rfl) | (rw [he, hu]; simp [c19, b2i, nI]))
  · skip
    have c11 := nI_nle' c11 (by omega) (by omega)
    have hu : ldB n (M 2) (n - k) x t = (hasB n x && (decide (x = t) || ldB n (M 2) (n - (k + 1)) (M 2 x.toNatClampNeg) t)) := by rw [show n - k = (n - (k + 1)) + 1 by omega]; rfl
    refine lv_aload_n hx hb dX5_leads_14 rfl (lv_at hl 0 rfl) ?_
    refine lv_iload_n hx hb dX5_leads_15 rfl (lv_at hl 2 rfl) ?_
    refine vp_callSi (va_Run.run (va_runV (As := [.int (x)]) (rest := []) ⟨hx, hb, hml, hown, hK.1.use _⟩ (c_X5_has l D cy z0 ad V B n M x hT) (k_X5_X5_has hK.1 rfl rfl ⟨Nat.le_of_ble_eq_true rfl, Nat.le_of_ble_eq_true rfl⟩) (preV hK hz hW hT0 rfl) rfl rfl hl.1 rfl (lv_room (Nat.le_of_ble_eq_true rfl)) dX5_leads_16 ⟨Nat.le_of_ble_eq_true rfl, Nat.le_of_ble_eq_true rfl⟩)) (fun r16 h16 => ?_)
    have h16 : r16 = b2i (hasB n x) := h16
    subst h16
    refine lv_if_eq (tgt := 44) hx hb dX5_leads_19 (by decide) (fun c19 => ?_) (fun c19 => ?_)
    · skip
      have c19 := b2i_0.mp c19
      refine lv_iconst (v := nI 0) hx hb dX5_leads_44 (by decide) ?_
      exact rz hx hb hr hlocks dX5_leads_45 (by first | exact b2i_n | rfl | decide) (by first | (rw [he, show n - k = 0 by omega]; rfl) | (rw [he, hu]; simp [c19, b2i, nI]))
    · skip
      have c19 := b2i_1.mp c19
      have hb9 := hasB_of c19 (by omega)
      refine lv_iload_n hx hb dX5_leads_22 rfl (lv_at hl 2 rfl) ?_
      refine lv_iload_n hx hb dX5_leads_23 rfl (lv_at hl 1 rfl) ?_
      refine lv_icmp_ne (tgt := 29) hx hb dX5_leads_24 (by decide) (fun c24 => ?_) (fun c24 => ?_)
      · skip
        refine lv_aload_n hx hb dX5_leads_29 rfl (lv_at hl 0 rfl) ?_
        refine g_X5_X5_rows hx hb hown hK hW hT0 dX5_leads_30 ?_
        refine lv_iconst (v := nI 2) hx hb dX5_leads_33 (by decide) ?_
        refine w_aald hx hb hK hW 3 rfl rfl hT1 (j := 2) (rfl) (by omega) (by omega) dX5_leads_34 ?_
        refine asv (y := .ref (ad (B + 2 + 2))) (el4 (by omega)) ?_
        refine lv_iload_n hx hb dX5_leads_35 rfl (lv_at hl 2 rfl) ?_
        refine w_iald hx hb hK hW hTr2 (j := x.toNatClampNeg) (hb9.1) (by omega) (by omega) dX5_leads_36 ?_
        refine lv_istore_n (lv' := [(3, .int ((M 2) x.toNatClampNeg)), (0, .ref (ad B)), (2, .int (t)), (4, .int (nI k))]) hx hb dX5_leads_37 rfl hl (by decide) rfl (fun ls hl => ?_)
        refine lv_iinc (v := nI (k + 1)) (lv' := [(4, .int (nI (k + 1))), (3, .int ((M 2) x.toNatClampNeg)), (0, .ref (ad B)), (2, .int (t))]) hx hb dX5_leads_38 hl (k := 3) rfl (by rw [show Int32.ofInt 1 = nI 1 from by decide]; exact nI_add _ _) (by decide) rfl (fun ls hl => ?_)
        refine lv_goto (tgt := 5) hx hb dX5_leads_41 (by decide) ?_
        exact ih ((k + 1, M 2 x.toNatClampNeg)) _ ⟨⟨by show k + 1 ≤ n; omega, by show _ = ldB n (M 2) (n - (k + 1)) (M 2 x.toNatClampNeg) t; rw [he, hu]; simp [c19, c24]⟩, ls, rfl, lv_sub hl [2, 3, 1, 0] rfl⟩ (by show n - (k + 1) < n - k; omega)
      · skip
        refine lv_iconst (v := nI 1) hx hb dX5_leads_27 (by decide) ?_
        exact rz hx hb hr hlocks dX5_leads_28 (by first | exact b2i_n | rfl | decide) (by rw [he, hu, c19]; simp [c24, b2i, nI])

set_option maxHeartbeats 4000000 in
set_option maxRecDepth 100000 in
theorem c_X5_takes (l : Launch) (D : va_G) (cy : Nat → ClassId) (z0 : Nat) (ad : Nat → Nat) (V : Nat → Option va_E) (B n : Nat) (M : Nat → Nat → Int32) (hT : isT ad V cy B n M) (hn40 : n ≤ 40) (o mm v : Int32) : Met l yX5_takes [Cond.code yX5_takes cX5_takes 4 (some .boolean)] { frames := 2, cells := 0, slots := 0, locals := 45 } (WP [.ref (ad B), .int (o), .int (mm), .int (v)] D cy z0 ad V) (vp_Si (fun r => r = b2i (tkB n (M 2) o mm v))) 0 0 (fun _ => False) := by
  refine met_of (by decide) (Nat.le_of_ble_eq_true rfl) (fun p e s m below meth c hx hb hr hml hown hlocks hnm hK hz hW ls hl => ?_)
  have hown : s.vm.findClass RX5 = some m.cls := hown
  have hl : lv_has ls 4 [(0, .ref (ad B)), (1, .int (o)), (2, .int (mm)), (3, .int (v))] := hl
  obtain ⟨hT0, hT1, hTr⟩ := id hT
  refine lv_aload_n hx hb dX5_takes_0 rfl (lv_at hl 0 rfl) ?_
  refine lv_iload_n hx hb dX5_takes_1 rfl (lv_at hl 1 rfl) ?_
  refine vp_callSi (va_Run.run (va_runV (As := [.int (o)]) (rest := []) ⟨hx, hb, hml, hown, hK.1.use _⟩ (c_X5_has l D cy z0 ad V B n M o hT) (k_X5_X5_has hK.1 rfl rfl ⟨Nat.le_of_ble_eq_true rfl, Nat.le_of_ble_eq_true rfl⟩) (preV hK hz hW hT0 rfl) rfl rfl hl.1 rfl (lv_room (Nat.le_of_ble_eq_true rfl)) dX5_takes_2 ⟨Nat.le_of_ble_eq_true rfl, Nat.le_of_ble_eq_true rfl⟩)) (fun r2 h2 => ?_)
  have h2 : r2 = b2i (hasB n o) := h2
  subst h2
  refine lv_if_ne (tgt := 10) hx hb dX5_takes_5 (by decide) (fun c5 => ?_) (fun c5 => ?_)
  · skip
    have c5 := b2i_1.mp c5
    refine lv_iload_n hx hb dX5_takes_10 rfl (lv_at hl 2 rfl) ?_
    by_cases hq0 : mm = nI 0
    · skip
      refine asi (y := nI 0) (by rw [hq0]) ?_
      refine lv_tableIn (off := 25) (tgt := 36) hx hb dX5_takes_11 (by decide) (by decide) (by decide) (by decide) ?_
      refine lv_iload_n hx hb dX5_takes_36 rfl (lv_at hl 3 rfl) ?_
      refine lv_sipush (v := -1000) hx hb dX5_takes_37 (by decide) ?_
      refine lv_sipush (v := nI 1000) hx hb dX5_takes_40 (by decide) ?_
      refine vp_callSi (va_Run.run (va_runSN (As := [.int (v), .int (-1000), .int (nI 1000)]) (rest := []) ⟨hx, hb, hml, hown, hK.1.use _⟩ (c_X6_within l D cy z0 ad V v (-1000) (nI 1000)) (k_X5_X6_within hK.1 rfl rfl ⟨Nat.le_of_ble_eq_true rfl, Nat.le_of_ble_eq_true rfl⟩) (preS hK hz hW) rfl rfl hl.1 rfl (lv_room (Nat.le_of_ble_eq_true rfl)) dX5_takes_43 ⟨Nat.le_of_ble_eq_true rfl, Nat.le_of_ble_eq_true rfl⟩)) (fun r43 h43 => ?_)
      have h43 : r43 = b2i (wiB v (-1000) (nI 1000)) := h43
      subst h43
      exact rz hx hb hr hlocks dX5_takes_46 (by first | exact b2i_n | rfl | decide) (by simp [tkB, c5, hq0])
    · skip
      by_cases hq1 : mm = nI 1
      · skip
        refine asi (y := nI 1) (by rw [hq1]) ?_
        refine lv_tableIn (off := 36) (tgt := 47) hx hb dX5_takes_11 (by decide) (by decide) (by decide) (by decide) ?_
        refine lv_iload_n hx hb dX5_takes_47 rfl (lv_at hl 3 rfl) ?_
        refine lv_iconst (v := nI 0) hx hb dX5_takes_48 (by decide) ?_
        refine lv_bipush (v := nI 20) hx hb dX5_takes_49 (by decide) ?_
        refine vp_callSi (va_Run.run (va_runSN (As := [.int (v), .int (nI 0), .int (nI 20)]) (rest := []) ⟨hx, hb, hml, hown, hK.1.use _⟩ (c_X6_within l D cy z0 ad V v (nI 0) (nI 20)) (k_X5_X6_within hK.1 rfl rfl ⟨Nat.le_of_ble_eq_true rfl, Nat.le_of_ble_eq_true rfl⟩) (preS hK hz hW) rfl rfl hl.1 rfl (lv_room (Nat.le_of_ble_eq_true rfl)) dX5_takes_51 ⟨Nat.le_of_ble_eq_true rfl, Nat.le_of_ble_eq_true rfl⟩)) (fun r51 h51 => ?_)
        have h51 : r51 = b2i (wiB v (nI 0) (nI 20)) := h51
        subst h51
        exact rz hx hb hr hlocks dX5_takes_54 (by first | exact b2i_n | rfl | decide) (by simp [tkB, c5, hq1, show ¬ nI 1 = nI 0 from by decide])
      · skip
        by_cases hq2 : mm = nI 2
        · skip
          refine asi (y := nI 2) (by rw [hq2]) ?_
          refine lv_tableIn (off := 44) (tgt := 55) hx hb dX5_takes_11 (by decide) (by decide) (by decide) (by decide) ?_
          refine lv_iload_n hx hb dX5_takes_55 rfl (lv_at hl 3 rfl) ?_
          refine lv_iconst (v := -1) hx hb dX5_takes_56 (by decide) ?_
          refine lv_icmp_eq (tgt := 77) hx hb dX5_takes_57 (by decide) (fun c57 => ?_) (fun c57 => ?_)
          · skip
            refine lv_iconst (v := nI 1) hx hb dX5_takes_77 (by decide) ?_
            refine lv_goto (tgt := 82) hx hb dX5_takes_78 (by decide) ?_
            exact rz hx hb hr hlocks dX5_takes_82 (by first | exact b2i_n | rfl | decide) (by first | (simp [tkB, c5, hq2, show ¬ nI 2 = nI 0 from by decide, show ¬ nI 2 = nI 1 from by decide, c57, b2i, nI]; done) | (simp [tkB, c5, hq2, show ¬ nI 2 = nI 0 from by decide, show ¬ nI 2 = nI 1 from by decide, c57, c65, b2i, nI]; done) | (simp [tkB, c5, hq2, show ¬ nI 2 = nI 0 from by decide, show ¬ nI 2 = nI 1 from by decide, c57, c65, c74, b2i, nI]; done))
          · skip
            refine lv_aload_n hx hb dX5_takes_60 rfl (lv_at hl 0 rfl) ?_
            refine lv_iload_n hx hb dX5_takes_61 rfl (lv_at hl 3 rfl) ?_
            refine vp_callSi (va_Run.run (va_runV (As := [.int (v)]) (rest := []) ⟨hx, hb, hml, hown, hK.1.use _⟩ (c_X5_has l D cy z0 ad V B n M v hT) (k_X5_X5_has hK.1 rfl rfl ⟨Nat.le_of_ble_eq_true rfl, Nat.le_of_ble_eq_true rfl⟩) (preV hK hz hW hT0 rfl) rfl rfl hl.1 rfl (lv_room (Nat.le_of_ble_eq_true rfl)) dX5_takes_62 ⟨Nat.le_of_ble_eq_true rfl, Nat.le_of_ble_eq_true rfl⟩)) (fun r62 h62 => ?_)
            have h62 : r62 = b2i (hasB n v) := h62
            subst h62
            refine lv_if_eq (tgt := 81) hx hb dX5_takes_65 (by decide) (fun c65 => ?_) (fun c65 => ?_)
            · skip
              have c65 := b2i_0.mp c65
              refine lv_iconst (v := nI 0) hx hb dX5_takes_81 (by decide) ?_
              exact rz hx hb hr hlocks dX5_takes_82 (by first | exact b2i_n | rfl | decide) (by first | (simp [tkB, c5, hq2, show ¬ nI 2 = nI 0 from by decide, show ¬ nI 2 = nI 1 from by decide, c57, b2i, nI]; done) | (simp [tkB, c5, hq2, show ¬ nI 2 = nI 0 from by decide, show ¬ nI 2 = nI 1 from by decide, c57, c65, b2i, nI]; done) | (simp [tkB, c5, hq2, show ¬ nI 2 = nI 0 from by decide, show ¬ nI 2 = nI 1 from by decide, c57, c65, c74, b2i, nI]; done))
            · skip
              have c65 := b2i_1.mp c65
              refine lv_aload_n hx hb dX5_takes_68 rfl (lv_at hl 0 rfl) ?_
              refine lv_iload_n hx hb dX5_takes_69 rfl (lv_at hl 3 rfl) ?_
              refine lv_iload_n hx hb dX5_takes_70 rfl (lv_at hl 1 rfl) ?_
              refine vp_callSi (va_Run.run (va_runV (As := [.int (v), .int (o)]) (rest := []) ⟨hx, hb, hml, hown, hK.1.use _⟩ (c_X5_leads l D cy z0 ad V B n M hT hn40 v o) (k_X5_X5_leads hK.1 rfl rfl ⟨Nat.le_of_ble_eq_true rfl, Nat.le_of_ble_eq_true rfl⟩) (preV hK hz hW hT0 rfl) rfl rfl hl.1 rfl (lv_room (Nat.le_of_ble_eq_true rfl)) dX5_takes_71 ⟨Nat.le_of_ble_eq_true rfl, Nat.le_of_ble_eq_true rfl⟩)) (fun r71 h71 => ?_)
              have h71 : r71 = b2i (ldB n (M 2) n v o) := h71
              subst h71
              refine lv_if_ne (tgt := 81) hx hb dX5_takes_74 (by decide) (fun c74 => ?_) (fun c74 => ?_)
              · skip
                have c74 := b2i_1.mp c74
                refine lv_iconst (v := nI 0) hx hb dX5_takes_81 (by decide) ?_
                exact rz hx hb hr hlocks dX5_takes_82 (by first | exact b2i_n | rfl | decide) (by first | (simp [tkB, c5, hq2, show ¬ nI 2 = nI 0 from by decide, show ¬ nI 2 = nI 1 from by decide, c57, b2i, nI]; done) | (simp [tkB, c5, hq2, show ¬ nI 2 = nI 0 from by decide, show ¬ nI 2 = nI 1 from by decide, c57, c65, b2i, nI]; done) | (simp [tkB, c5, hq2, show ¬ nI 2 = nI 0 from by decide, show ¬ nI 2 = nI 1 from by decide, c57, c65, c74, b2i, nI]; done))
              · skip
                have c74 := b2i_0.mp c74
                refine lv_iconst (v := nI 1) hx hb dX5_takes_77 (by decide) ?_
                refine lv_goto (tgt := 82) hx hb dX5_takes_78 (by decide) ?_
                exact rz hx hb hr hlocks dX5_takes_82 (by first | exact b2i_n | rfl | decide) (by first | (simp [tkB, c5, hq2, show ¬ nI 2 = nI 0 from by decide, show ¬ nI 2 = nI 1 from by decide, c57, b2i, nI]; done) | (simp [tkB, c5, hq2, show ¬ nI 2 = nI 0 from by decide, show ¬ nI 2 = nI 1 from by decide, c57, c65, b2i, nI]; done) | (simp [tkB, c5, hq2, show ¬ nI 2 = nI 0 from by decide, show ¬ nI 2 = nI 1 from by decide, c57, c65, c74, b2i, nI]; done))
        · skip
          refine lv_tableOut (tgt := 83) hx hb dX5_takes_11 (swO 2 (fun k hk => by have hk3 : k = 0 ∨ k = 1 ∨ k = 2 := (by omega); rcases hk3 with rfl | rfl | rfl <;> assumption)) (by decide) ?_
          refine lv_iconst (v := nI 0) hx hb dX5_takes_83 (by decide) ?_
          exact rz hx hb hr hlocks dX5_takes_84 (by first | exact b2i_n | rfl | decide) (by rw [show tkB n (M 2) o mm v = false from by simp [tkB, hq0, hq1, hq2]]; rfl)
  · skip
    have c5 := b2i_0.mp c5
    refine lv_iconst (v := nI 0) hx hb dX5_takes_8 (by decide) ?_
    exact rz hx hb hr hlocks dX5_takes_9 (by first | exact b2i_n | rfl | decide) (by simp [tkB, c5, b2i, nI])

set_option maxHeartbeats 4000000 in
set_option maxRecDepth 100000 in
theorem c_X5_countOther (l : Launch) (D : va_G) (cy : Nat → ClassId) (z0 : Nat) (ad : Nat → Nat) (V : Nat → Option va_E) (B n : Nat) (M : Nat → Nat → Int32) (hT : isT ad V cy B n M) (B2 n2 : Nat) (M2 : Nat → Nat → Int32) (hU : isT ad V cy B2 n2 M2) (hn40 : n ≤ 40) : Met l yX5_countOther [Cond.code yX5_countOther cX5_countOther 5 (some .int)] { frames := 1, cells := 0, slots := 0, locals := 20 } (WP [.ref (ad B), .ref (ad B2)] D cy z0 ad V) (vp_Si (fun r => r = nI (coT n M M2 4))) 0 0 (fun _ => False) := by
  refine met_of (by decide) (Nat.le_of_ble_eq_true rfl) (fun p e s m below meth c hx hb hr hml hown hlocks hnm hK hz hW ls hl => ?_)
  have hown : s.vm.findClass RX5 = some m.cls := hown
  have hl : lv_has ls 5 [(0, .ref (ad B)), (1, .ref (ad B2))] := hl
  obtain ⟨hT0, hT1, hTr⟩ := id hT
  obtain ⟨hU0, hU1, hUr⟩ := id hU
  refine lv_iconst (v := nI 0) hx hb dX5_countOther_0 (by decide) ?_
  refine lv_istore_n (lv' := [(2, .int (nI 0)), (0, .ref (ad B)), (1, .ref (ad B2))]) hx hb dX5_countOther_1 rfl hl (by decide) rfl (fun ls hl => ?_)
  refine lv_iconst (v := nI 0) hx hb dX5_countOther_2 (by decide) ?_
  refine lv_istore_n (lv' := [(3, .int (nI 0)), (2, .int (nI 0)), (0, .ref (ad B)), (1, .ref (ad B2))]) hx hb dX5_countOther_3 rfl hl (by decide) rfl (fun ls hl => ?_)
  refine wl (ι := Nat) (fun k => 4 - k) (fun k g => (k ≤ 4) ∧ ∃ ls, g = F0 m 4 ls [] ∧ lv_has ls 5 [(0, .ref (ad B)), (1, .ref (ad B2)), (2, .int (nI (coT n M M2 k))), (3, .int (nI k))]) ?_ (0) _ ⟨Nat.zero_le _, ls, rfl, lv_sub hl [2, 3, 1, 0] rfl⟩
  intro k g hg ih
  obtain ⟨hk, ls, rfl, hl⟩ := hg
  have ihA := ih
  refine lv_iload_n hx hb dX5_countOther_4 rfl (lv_at hl 3 rfl) ?_
  refine lv_iconst (v := nI 4) hx hb dX5_countOther_5 (by decide) ?_
  refine lv_icmp_ge (tgt := 65) hx hb dX5_countOther_6 (by decide) (fun c6 => ?_) (fun c6 => ?_)
  · skip
    have c6 := nI_le' c6 (by omega) (by omega)
    refine lv_iload_n hx hb dX5_countOther_65 rfl (lv_at hl 2 rfl) ?_
    exact ri hx hb hr hlocks dX5_countOther_66 (by have e9 : k = 4 := (by omega); rw [e9])
  · skip
    have c6 := nI_nle' c6 (by omega) (by omega)
    have hTrk := hTr k (by omega)
    have hUrk := hUr k (by omega)
    refine lv_iconst (v := nI 0) hx hb dX5_countOther_9 (by decide) ?_
    refine lv_istore (lv' := [(4, .int (nI 0)), (0, .ref (ad B)), (1, .ref (ad B2)), (2, .int (nI (coT n M M2 k))), (3, .int (nI k))]) hx hb dX5_countOther_10 hl (by decide) rfl (fun ls hl => ?_)
    refine wl (ι := Nat) (fun i => n - i) (fun i g => (i ≤ n) ∧ ∃ ls, g = F0 m 12 ls [] ∧ lv_has ls 5 [(0, .ref (ad B)), (1, .ref (ad B2)), (2, .int (nI (coT n M M2 k + rdT (M k) (M2 k) i))), (3, .int (nI k)), (4, .int (nI i))]) ?_ (0) _ ⟨Nat.zero_le _, ls, rfl, lv_sub hl [1, 2, 3, 4, 0] rfl⟩
    intro i g hg ih
    obtain ⟨hi, ls, rfl, hl⟩ := hg
    refine lv_iload hx hb dX5_countOther_12 (lv_at hl 4 rfl) ?_
    refine lv_aload_n hx hb dX5_countOther_14 rfl (lv_at hl 0 rfl) ?_
    refine g_X5_X5_objects hx hb hown hK hW hT0 dX5_countOther_15 ?_
    refine lv_icmp_ge (tgt := 59) hx hb dX5_countOther_18 (by decide) (fun c18 => ?_) (fun c18 => ?_)
    · skip
      have c18 := nI_le' c18 (by omega) (by omega)
      have hq59_2 : (nI (coT n M M2 k + rdT (M k) (M2 k) i)) = (nI (coT n M M2 (k + 1))) := by have e9 : i = n := (by omega); rw [e9]; rfl
      rw [hq59_2] at hl
      refine lv_iinc (v := nI (k + 1)) (lv' := [(3, .int (nI (k + 1))), (0, .ref (ad B)), (1, .ref (ad B2)), (2, .int (nI (coT n M M2 (k + 1)))), (4, .int (nI i))]) hx hb dX5_countOther_59 hl (k := 3) rfl (by rw [show Int32.ofInt 1 = nI 1 from by decide]; exact nI_add _ _) (by decide) rfl (fun ls hl => ?_)
      refine lv_goto (tgt := 4) hx hb dX5_countOther_62 (by decide) ?_
      exact ihA (k + 1) _ ⟨by omega, ls, rfl, lv_sub hl [1, 2, 3, 0] rfl⟩ (by omega)
    · skip
      have c18 := nI_nle' c18 (by omega) (by omega)
      refine lv_iload_n hx hb dX5_countOther_21 rfl (lv_at hl 2 rfl) ?_
      refine jl (pcj := 48) (st := [.int (b2i (decide (¬ M k i = M2 k i))), .int (nI (coT n M M2 k + rdT (M k) (M2 k) i))]) (nL := 5) (lv := [(0, .ref (ad B)), (1, .ref (ad B2)), (2, .int (nI (coT n M M2 k + rdT (M k) (M2 k) i))), (3, .int (nI k)), (4, .int (nI i))]) (fun K => ?_) (fun ls hl => ?_)
      · skip
        refine lv_aload_n hx hb dX5_countOther_22 rfl (lv_at hl 0 rfl) ?_
        refine g_X5_X5_rows hx hb hown hK hW hT0 dX5_countOther_23 ?_
        refine lv_iload_n hx hb dX5_countOther_26 rfl (lv_at hl 3 rfl) ?_
        refine w_aald hx hb hK hW 3 rfl rfl hT1 (j := k) (rfl) (by omega) (by omega) dX5_countOther_27 ?_
        refine asv (y := .ref (ad (B + 2 + k))) (el4 (by omega)) ?_
        refine lv_iload hx hb dX5_countOther_28 (lv_at hl 4 rfl) ?_
        refine w_iald hx hb hK hW hTrk (j := i) (rfl) (by omega) (by omega) dX5_countOther_30 ?_
        refine lv_aload_n hx hb dX5_countOther_31 rfl (lv_at hl 1 rfl) ?_
        refine g_X5_X5_rows hx hb hown hK hW hU0 dX5_countOther_32 ?_
        refine lv_iload_n hx hb dX5_countOther_35 rfl (lv_at hl 3 rfl) ?_
        refine w_aald hx hb hK hW 3 rfl rfl hU1 (j := k) (rfl) (by omega) (by omega) dX5_countOther_36 ?_
        refine asv (y := .ref (ad (B2 + 2 + k))) (el4 (by omega)) ?_
        refine lv_iload hx hb dX5_countOther_37 (lv_at hl 4 rfl) ?_
        refine w_iald hx hb hK hW hUrk (j := i) (rfl) (by omega) (by omega) dX5_countOther_39 ?_
        refine lv_icmp_eq (tgt := 47) hx hb dX5_countOther_40 (by decide) (fun c40 => ?_) (fun c40 => ?_)
        · skip
          refine lv_iconst (v := nI 0) hx hb dX5_countOther_47 (by decide) ?_
          refine asi (y := b2i (decide (¬ M k i = M2 k i))) (by simp [b2i, nI, c40]) ?_
          exact K ls (lv_sub hl [0, 1, 2, 3, 4] rfl)
        · skip
          refine lv_iconst (v := nI 1) hx hb dX5_countOther_43 (by decide) ?_
          refine lv_goto (tgt := 48) hx hb dX5_countOther_44 (by decide) ?_
          refine asi (y := b2i (decide (¬ M k i = M2 k i))) (by simp [b2i, nI, c40]) ?_
          exact K ls (lv_sub hl [0, 1, 2, 3, 4] rfl)
      · skip
        refine vp_callSi (va_Run.run (va_runSN (As := [.int (b2i (decide (¬ M k i = M2 k i)))]) (rest := [.int (nI (coT n M M2 k + rdT (M k) (M2 k) i))]) ⟨hx, hb, hml, hown, hK.1.use _⟩ (c_X6_oneIf l D cy z0 ad V (decide (¬ M k i = M2 k i))) (k_X5_X6_oneIf hK.1 rfl rfl ⟨Nat.le_of_ble_eq_true rfl, Nat.le_of_ble_eq_true rfl⟩) (preS hK hz hW) rfl rfl hl.1 rfl (lv_room (Nat.le_of_ble_eq_true rfl)) dX5_countOther_48 ⟨Nat.le_of_ble_eq_true rfl, Nat.le_of_ble_eq_true rfl⟩)) (fun r48 h48 => ?_)
        have h48 : r48 = b2i (decide (¬ M k i = M2 k i)) := h48
        subst h48
        refine lv_iadd hx hb dX5_countOther_51 ?_
        refine asi (y := nI (coT n M M2 k + rdT (M k) (M2 k) (i + 1))) (by simp only [rdT]; rw [← Nat.add_assoc, ← nI_add]; congr 1; by_cases h1 : M k i = M2 k i <;> simp [h1, b2i, nI]) ?_
        refine lv_istore_n (lv' := [(2, .int (nI (coT n M M2 k + rdT (M k) (M2 k) (i + 1)))), (0, .ref (ad B)), (1, .ref (ad B2)), (3, .int (nI k)), (4, .int (nI i))]) hx hb dX5_countOther_52 rfl hl (by decide) rfl (fun ls hl => ?_)
        refine lv_iinc (v := nI (i + 1)) (lv' := [(4, .int (nI (i + 1))), (2, .int (nI (coT n M M2 k + rdT (M k) (M2 k) (i + 1)))), (0, .ref (ad B)), (1, .ref (ad B2)), (3, .int (nI k))]) hx hb dX5_countOther_53 hl (k := 4) rfl (by rw [show Int32.ofInt 1 = nI 1 from by decide]; exact nI_add _ _) (by decide) rfl (fun ls hl => ?_)
        refine lv_goto (tgt := 12) hx hb dX5_countOther_56 (by decide) ?_
        exact ih (i + 1) _ ⟨by omega, ls, rfl, lv_sub hl [2, 3, 1, 4, 0] rfl⟩ (by omega)
end
section
set_option maxHeartbeats 4000000 in
set_option maxRecDepth 100000 in
theorem c_X5_addObject (l : Launch) (D : va_G) (cy : Nat → ClassId) (z0 : Nat) (ad : Nat → Nat) (V : Nat → Option va_E) (B n : Nat) (M : Nat → Nat → Int32) (hT : isT ad V cy B n M) (hn40 : n < 40) : Met l yX5_addObject [Cond.code yX5_addObject cX5_addObject 1 none] { frames := 0, cells := 0, slots := 0, locals := 0 } (WP [.ref (ad B)] D cy z0 ad V) (va_Qv (fun u => u.1 = ad ∧ isT ad u.2 cy B (n + 1) (addM n M) ∧ ∀ L, (L < B ∨ B + 6 ≤ L) → u.2 L = V L) (WB D z0) (AA z0)) 0 0 (AA z0) := by
  refine met_of (by decide) (Nat.le_of_ble_eq_true rfl) (fun p e s m below meth c hx hb hr hml hown hlocks hnm hK hz hW ls hl => ?_)
  have hown : s.vm.findClass RX5 = some m.cls := hown
  have hl : lv_has ls 1 [(0, .ref (ad B))] := hl
  have hS : va_S (AA z0) s.heap s.heap [] := va_S.rf
  obtain ⟨hT0, hT1, hTr⟩ := id hT
  have hTr2 := hTr 2 (by omega)
  refine lv_aload_n hx hb dX5_addObject_0 rfl (lv_at hl 0 rfl) ?_
  refine g_X5_X5_rows hx hb hown hK hW hT0 dX5_addObject_1 ?_
  refine lv_iconst (v := nI 2) hx hb dX5_addObject_4 (by decide) ?_
  refine w_aald hx hb hK hW 3 rfl rfl hT1 (j := 2) (rfl) (by omega) (by omega) dX5_addObject_5 ?_
  refine asv (y := .ref (ad (B + 2 + 2))) (el4 (by omega)) ?_
  refine lv_aload_n hx hb dX5_addObject_6 rfl (lv_at hl 0 rfl) ?_
  refine g_X5_X5_objects hx hb hown hK hW hT0 dX5_addObject_7 ?_
  refine lv_iconst (v := -1) hx hb dX5_addObject_10 (by decide) ?_
  refine w_iast hx hb hK hW hS hTr2 (j := n) (rfl) (by omega) (by omega) dX5_addObject_11 (fun H locs hW hS => ?_)
  obtain ⟨V1, eV1⟩ : ∃ x, x = va_up V (B + 2 + 2) (some (.inl (cy 0, 40, .inl (upd (M 2) n (-1))))) := ⟨_, rfl⟩
  rw [← eV1] at hW
  have hT0 : V1 (B) = some (.inr (5, [.ref (ad (B + 1)), .int (nI n)])) := by rw [eV1, va_up_ne _ _ (by omega)]; exact hT0
  have hT1 : V1 (B + 1) = some (.inl (cy 3, 4, .inr (.inr (.inr (.inr (fun i => if i < 4 then some (ad (B + 2 + i)) else none)))))) := by rw [eV1, va_up_ne _ _ (by omega)]; exact hT1
  have hTr2 : V1 (B + 2 + 2) = some (.inl (cy 0, 40, .inl (upd (M 2) n (-1)))) := by rw [eV1, va_up_self]
  refine lv_aload_n hx hb dX5_addObject_12 rfl (lv_at hl 0 rfl) ?_
  refine lv_dup hx hb dX5_addObject_13 rfl ?_
  refine g_X5_X5_objects hx hb hown hK hW hT0 dX5_addObject_14 ?_
  refine lv_iconst (v := nI 1) hx hb dX5_addObject_17 (by decide) ?_
  refine lv_iadd hx hb dX5_addObject_18 ?_
  refine asi (y := nI (n + 1)) (nI_add _ _) ?_
  refine p_X5_X5_objects hx hb hown hK hW hS hT0 dX5_addObject_19 (fun H locs hW hS => ?_)
  obtain ⟨V2, eV2⟩ : ∃ x, x = va_up V1 (B) (some (.inr (5, [.ref (ad (B + 1)), .int (nI (n + 1))]))) := ⟨_, rfl⟩
  rw [← eV2] at hW
  have hT1 : V2 (B + 1) = some (.inl (cy 3, 4, .inr (.inr (.inr (.inr (fun i => if i < 4 then some (ad (B + 2 + i)) else none)))))) := by rw [eV2, va_up_ne _ _ (by omega)]; exact hT1
  have hTr2 : V2 (B + 2 + 2) = some (.inl (cy 0, 40, .inl (upd (M 2) n (-1)))) := by rw [eV2, va_up_ne _ _ (by omega)]; exact hTr2
  have hT0 : V2 (B) = some (.inr (5, [.ref (ad (B + 1)), .int (nI (n + 1))])) := by rw [eV2, va_up_self]
  exact rwv hx hb hr hlocks dX5_addObject_22 hW hS (⟨rfl, ⟨hT0, hT1, fun mm hm => by
    show V2 (B + 2 + mm) = _
    rw [eV2, va_up_ne _ _ (by omega), eV1]
    by_cases h2 : mm = 2
    · subst h2; rw [va_up_self]; rfl
    · rw [va_up_ne _ _ (by omega), hTr mm hm]; simp [addM, h2]⟩, fun L hL => by
    show V2 L = V L
    rw [eV2, va_up_ne _ _ (by omega), eV1, va_up_ne _ _ (by omega)]⟩)

set_option maxHeartbeats 4000000 in
set_option maxRecDepth 100000 in
theorem c_X5_becomeLike (l : Launch) (D : va_G) (cy : Nat → ClassId) (z0 : Nat) (ad : Nat → Nat) (V : Nat → Option va_E) (B n : Nat) (M : Nat → Nat → Int32) (hT : isT ad V cy B n M) (B2 n2 : Nat) (M2 : Nat → Nat → Int32) (hU : isT ad V cy B2 n2 M2) (hnn : n ≤ n2) (hn40 : n2 ≤ 40) (hap : B + 6 ≤ B2 ∨ B2 + 6 ≤ B) (hZ : Zt n M) (hZ2 : Zt n2 M2) : Met l yX5_becomeLike [Cond.code yX5_becomeLike cX5_becomeLike 3 none] { frames := 1, cells := 0, slots := 0, locals := 60 } (WP [.ref (ad B), .ref (ad B2)] D cy z0 ad V) (va_Qv (fun u => u.1 = ad ∧ isT ad u.2 cy B n2 M2 ∧ ∀ L, (L < B ∨ B + 6 ≤ L) → u.2 L = V L) (WB D z0) (AA z0)) 0 0 (AA z0) := by
  refine met_of (by decide) (Nat.le_of_ble_eq_true rfl) (fun p e s m below meth c hx hb hr hml hown hlocks hnm hK hz hW ls hl => ?_)
  have hown : s.vm.findClass RX5 = some m.cls := hown
  have hl : lv_has ls 3 [(0, .ref (ad B)), (1, .ref (ad B2))] := hl
  have hS : va_S (AA z0) s.heap s.heap [] := va_S.rf
  obtain ⟨hT0, hT1, hTr⟩ := id hT
  obtain ⟨hU0, hU1, hUr⟩ := id hU
  refine lv_aload_n hx hb dX5_becomeLike_0 rfl (lv_at hl 0 rfl) ?_
  refine lv_aload_n hx hb dX5_becomeLike_1 rfl (lv_at hl 1 rfl) ?_
  refine g_X5_X5_objects hx hb hown hK hW hU0 dX5_becomeLike_2 ?_
  refine p_X5_X5_objects hx hb hown hK hW hS hT0 dX5_becomeLike_5 (fun H locs hW hS => ?_)
  obtain ⟨V1, eV1⟩ : ∃ x, x = va_up V (B) (some (.inr (5, [.ref (ad (B + 1)), .int (nI n2)]))) := ⟨_, rfl⟩
  rw [← eV1] at hW
  have hT1 : V1 (B + 1) = some (.inl (cy 3, 4, .inr (.inr (.inr (.inr (fun i => if i < 4 then some (ad (B + 2 + i)) else none)))))) := by rw [eV1, va_up_ne _ _ (by omega)]; exact hT1
  have hU0 : V1 (B2) = some (.inr (5, [.ref (ad (B2 + 1)), .int (nI n2)])) := by rw [eV1, va_up_ne _ _ (by omega)]; exact hU0
  have hU1 : V1 (B2 + 1) = some (.inl (cy 3, 4, .inr (.inr (.inr (.inr (fun i => if i < 4 then some (ad (B2 + 2 + i)) else none)))))) := by rw [eV1, va_up_ne _ _ (by omega)]; exact hU1
  have hT0 : V1 (B) = some (.inr (5, [.ref (ad (B + 1)), .int (nI n2)])) := by rw [eV1, va_up_self]
  refine lv_iconst (v := nI 0) hx hb dX5_becomeLike_8 (by decide) ?_
  refine lv_istore_n (lv' := [(2, .int (nI 0)), (0, .ref (ad B)), (1, .ref (ad B2))]) hx hb dX5_becomeLike_9 rfl hl (by decide) rfl (fun ls hl => ?_)
  refine wlh (ι := Nat) (fun k => 4 - k) (fun k H locs g => (k ≤ 4) ∧ (∃ X, (isT ad X cy B n2 (fun q => if q < k then M2 q else M q) ∧ ∀ L, (L < B ∨ B + 6 ≤ L) → X L = V L) ∧ HW D z0 ad X H) ∧ va_S (AA z0) s.heap H locs ∧ ∃ ls, g = F0 m 10 ls [] ∧ lv_has ls 3 [(0, .ref (ad B)), (1, .ref (ad B2)), (2, .int (nI k))]) ?_ (0) _ _ _ ⟨Nat.zero_le _, ⟨_, ⟨⟨hT0, hT1, fun mm hm => by rw [eV1, va_up_ne _ _ (by omega), hTr mm hm]; simp⟩, fun L hL => by rw [eV1, va_up_ne _ _ (by omega)]⟩, hW⟩, hS, ls, rfl, lv_sub hl [1, 2, 0] rfl⟩
  intro k H locs g hg ih
  obtain ⟨hk, ⟨Vl, ⟨hTk, hfr⟩, hW⟩, hS, ls, rfl, hl⟩ := hg
  obtain ⟨hT0, hT1, hTr⟩ := id hTk
  have hU0 : Vl B2 = _ := (hfr _ (by omega)).trans hU.1
  have hU1 : Vl (B2 + 1) = _ := (hfr _ (by omega)).trans hU.2.1
  refine lv_iload_n hx hb dX5_becomeLike_10 rfl (lv_at hl 2 rfl) ?_
  refine lv_iconst (v := nI 4) hx hb dX5_becomeLike_11 (by decide) ?_
  refine lv_icmp_ge (tgt := 42) hx hb dX5_becomeLike_12 (by decide) (fun c12 => ?_) (fun c12 => ?_)
  · skip
    have c12 := nI_le' c12 (by omega) (by omega)
    exact rwv hx hb hr hlocks dX5_becomeLike_42 hW hS (⟨rfl, ⟨hT0, hT1, fun mm hm => by show Vl (B + 2 + mm) = _; rw [hTr mm hm]; have h9 : mm < k := (by omega); simp [h9]⟩, hfr⟩)
  · skip
    have c12 := nI_nle' c12 (by omega) (by omega)
    have hTrk := hTr k (by omega)
    simp only [Nat.lt_irrefl, if_false] at hTrk
    have hUrk : Vl (B2 + 2 + k) = _ := (hfr _ (by omega)).trans (hU.2.2 k (by omega))
    refine lv_aload_n hx hb dX5_becomeLike_15 rfl (lv_at hl 1 rfl) ?_
    refine g_X5_X5_rows hx hb hown hK hW hU0 dX5_becomeLike_16 ?_
    refine lv_iload_n hx hb dX5_becomeLike_19 rfl (lv_at hl 2 rfl) ?_
    refine w_aald hx hb hK hW 3 rfl rfl hU1 (j := k) (rfl) (by omega) (by omega) dX5_becomeLike_20 ?_
    refine asv (y := .ref (ad (B2 + 2 + k))) (el4 (by omega)) ?_
    refine lv_iconst (v := nI 0) hx hb dX5_becomeLike_21 (by decide) ?_
    refine lv_aload_n hx hb dX5_becomeLike_22 rfl (lv_at hl 0 rfl) ?_
    refine g_X5_X5_rows hx hb hown hK hW hT0 dX5_becomeLike_23 ?_
    refine lv_iload_n hx hb dX5_becomeLike_26 rfl (lv_at hl 2 rfl) ?_
    refine w_aald hx hb hK hW 3 rfl rfl hT1 (j := k) (rfl) (by omega) (by omega) dX5_becomeLike_27 ?_
    refine asv (y := .ref (ad (B + 2 + k))) (el4 (by omega)) ?_
    refine lv_iconst (v := nI 0) hx hb dX5_becomeLike_28 (by decide) ?_
    refine lv_aload_n hx hb dX5_becomeLike_29 rfl (lv_at hl 0 rfl) ?_
    refine g_X5_X5_objects hx hb hown hK hW hT0 dX5_becomeLike_30 ?_
    refine w_copyi hx hb (hml.trans hl.1.symm) hown k_X5_arraycopy tw_181 tw_180 tw_7 hK hW hS hUrk hTrk (a := 0) (b := 0) (k := n2) rfl rfl rfl (by omega) (by omega) (by omega) (by omega) (Nat.le_of_ble_eq_true rfl) (Nat.le_of_ble_eq_true rfl) dX5_becomeLike_33 (fun H locs hW hS => ?_)
    obtain ⟨V2, eV2⟩ : ∃ x, x = va_up Vl (B + 2 + k) (some (.inl (cy 0, 40, .inl (va_cpy (M2 k) (M k) 0 0 n2)))) := ⟨_, rfl⟩
    rw [← eV2] at hW
    have hT0 : V2 (B) = some (.inr (5, [.ref (ad (B + 1)), .int (nI n2)])) := by rw [eV2, va_up_ne _ _ (by omega)]; exact hT0
    have hT1 : V2 (B + 1) = some (.inl (cy 3, 4, .inr (.inr (.inr (.inr (fun i => if i < 4 then some (ad (B + 2 + i)) else none)))))) := by rw [eV2, va_up_ne _ _ (by omega)]; exact hT1
    have hU0 : V2 (B2) = some (.inr (5, [.ref (ad (B2 + 1)), .int (nI n2)])) := by rw [eV2, va_up_ne _ _ (by omega)]; exact hU0
    have hU1 : V2 (B2 + 1) = some (.inl (cy 3, 4, .inr (.inr (.inr (.inr (fun i => if i < 4 then some (ad (B2 + 2 + i)) else none)))))) := by rw [eV2, va_up_ne _ _ (by omega)]; exact hU1
    have hUrk : V2 (B2 + 2 + k) = some (.inl (cy 0, 40, .inl (M2 k))) := by rw [eV2, va_up_ne _ _ (by omega)]; exact hUrk
    have hTrk : V2 (B + 2 + k) = some (.inl (cy 0, 40, .inl (va_cpy (M2 k) (M k) 0 0 n2))) := by rw [eV2, va_up_self]
    refine lv_iinc (v := nI (k + 1)) (lv' := [(2, .int (nI (k + 1))), (0, .ref (ad B)), (1, .ref (ad B2))]) hx hb dX5_becomeLike_36 hl (k := 2) rfl (by rw [show Int32.ofInt 1 = nI 1 from by decide]; exact nI_add _ _) (by decide) rfl (fun ls hl => ?_)
    refine lv_goto (tgt := 10) hx hb dX5_becomeLike_39 (by decide) ?_
    exact ih (k + 1) _ _ _ ⟨by omega, ⟨_, ⟨⟨hT0, hT1, fun mm hm => by
      rw [eV2]
      by_cases h2 : mm = k
      · subst h2; rw [va_up_self, cpyZ (fun o ho => hZ2 mm o ho) (fun o ho => hZ mm o (by omega))]; simp
      · rw [va_up_ne _ _ (by omega), hTr mm hm]
        have h3 : mm < k + 1 ↔ mm < k := by omega
        simp [h3]⟩, fun L hL => by rw [eV2, va_up_ne _ _ (by omega)]; exact hfr L hL⟩, hW⟩, hS, ls, rfl, lv_sub hl [1, 2, 0] rfl⟩ (by omega)

set_option maxHeartbeats 4000000 in
set_option maxRecDepth 100000 in
theorem c_X5_put (l : Launch) (D : va_G) (cy : Nat → ClassId) (z0 : Nat) (ad : Nat → Nat) (V : Nat → Option va_E) (B n : Nat) (M : Nat → Nat → Int32) (hT : isT ad V cy B n M) (hn40 : n ≤ 40) (mm oo : Nat) (v : Int32) (hm3 : mm < 3) (ho : oo < n) : Met l yX5_put [Cond.code yX5_put cX5_put 8 none] { frames := 2, cells := 0, slots := 0, locals := 45 } (WP [.ref (ad B), .int (nI oo), .int (nI mm), .int (v)] D cy z0 ad V) (va_Qv (fun u => u.1 = ad ∧ isT ad u.2 cy B n (putM n M mm oo v) ∧ ∀ L, (L < B ∨ B + 6 ≤ L) → u.2 L = V L) (WB D z0) (AA z0)) 0 0 (AA z0) := by
  refine met_of (by decide) (Nat.le_of_ble_eq_true rfl) (fun p e s m below meth c hx hb hr hml hown hlocks hnm hK hz hW ls hl => ?_)
  have hown : s.vm.findClass RX5 = some m.cls := hown
  have hl : lv_has ls 8 [(0, .ref (ad B)), (1, .int (nI oo)), (2, .int (nI mm)), (3, .int (v))] := hl
  have hS : va_S (AA z0) s.heap s.heap [] := va_S.rf
  obtain ⟨hT0, hT1, hTr⟩ := id hT
  have hTrmm := hTr mm (by omega)
  refine lv_aload_n hx hb dX5_put_0 rfl (lv_at hl 0 rfl) ?_
  refine g_X5_X5_rows hx hb hown hK hW hT0 dX5_put_1 ?_
  refine lv_iload_n hx hb dX5_put_4 rfl (lv_at hl 2 rfl) ?_
  refine w_aald hx hb hK hW 3 rfl rfl hT1 (j := mm) (rfl) (by omega) (by omega) dX5_put_5 ?_
  refine asv (y := .ref (ad (B + 2 + mm))) (el4 (by omega)) ?_
  refine lv_iload_n hx hb dX5_put_6 rfl (lv_at hl 1 rfl) ?_
  refine lv_iload_n hx hb dX5_put_7 rfl (lv_at hl 3 rfl) ?_
  refine w_iast hx hb hK hW hS hTrmm (j := oo) (rfl) (by omega) (by omega) dX5_put_8 (fun H locs hW hS => ?_)
  obtain ⟨V1, eV1⟩ : ∃ x, x = va_up V (B + 2 + mm) (some (.inl (cy 0, 40, .inl (upd (M mm) oo v)))) := ⟨_, rfl⟩
  rw [← eV1] at hW
  have hT0 : V1 (B) = some (.inr (5, [.ref (ad (B + 1)), .int (nI n)])) := by rw [eV1, va_up_ne _ _ (by omega)]; exact hT0
  have hT1 : V1 (B + 1) = some (.inl (cy 3, 4, .inr (.inr (.inr (.inr (fun i => if i < 4 then some (ad (B + 2 + i)) else none)))))) := by rw [eV1, va_up_ne _ _ (by omega)]; exact hT1
  have hTrmm : V1 (B + 2 + mm) = some (.inl (cy 0, 40, .inl (upd (M mm) oo v))) := by rw [eV1, va_up_self]
  obtain ⟨M1, eM1⟩ : ∃ x, x = updM M mm oo v := ⟨_, rfl⟩
  have hT : isT ad V1 cy B n M1 := ⟨hT0, hT1, fun q hq => by
    rw [eM1, eV1]
    by_cases h2 : q = mm
    · subst h2; rw [va_up_self]; simp [updM]
    · rw [va_up_ne _ _ (by omega), hTr q hq]; simp [updM, h2]⟩
  have hfr : ∀ L, (L < B ∨ B + 6 ≤ L) → V1 L = V L := fun L hL => by rw [eV1, va_up_ne _ _ (by omega)]
  obtain ⟨hT0, hT1, hTr⟩ := id hT
  have hTr2 := hTr 2 (by omega)
  have hTr0 := hTr 0 (by omega)
  have hTr3 := hTr 3 (by omega)
  refine lv_aload_n hx hb dX5_put_9 rfl (lv_at hl 0 rfl) ?_
  refine g_X5_X5_rows hx hb hown hK hW hT0 dX5_put_10 ?_
  refine lv_iconst (v := nI 2) hx hb dX5_put_13 (by decide) ?_
  refine w_aald hx hb hK hW 3 rfl rfl hT1 (j := 2) (rfl) (by omega) (by omega) dX5_put_14 ?_
  refine asv (y := .ref (ad (B + 2 + 2))) (el4 (by omega)) ?_
  refine lv_iload_n hx hb dX5_put_15 rfl (lv_at hl 1 rfl) ?_
  refine w_iald hx hb hK hW hTr2 (j := oo) (rfl) (by omega) (by omega) dX5_put_16 ?_
  refine lv_istore (lv' := [(4, .int ((M1 2) oo)), (0, .ref (ad B)), (1, .int (nI oo)), (2, .int (nI mm)), (3, .int (v))]) hx hb dX5_put_17 hl (by decide) rfl (fun ls hl => ?_)
  refine lv_aload_n hx hb dX5_put_19 rfl (lv_at hl 1 rfl) ?_
  refine g_X5_X5_rows hx hb hown hK hW hT0 dX5_put_20 ?_
  refine lv_iconst (v := nI 0) hx hb dX5_put_23 (by decide) ?_
  refine w_aald hx hb hK hW 3 rfl rfl hT1 (j := 0) (rfl) (by omega) (by omega) dX5_put_24 ?_
  refine asv (y := .ref (ad (B + 2 + 0))) (el4 (by omega)) ?_
  refine lv_iload_n hx hb dX5_put_25 rfl (lv_at hl 2 rfl) ?_
  refine w_iald hx hb hK hW hTr0 (j := oo) (rfl) (by omega) (by omega) dX5_put_26 ?_
  refine jl (pcj := 49) (st := [.int (if hasB n (M1 2 oo) = true then M1 3 (M1 2 oo).toNatClampNeg else nI 0), .int ((M1 0) oo)]) (nL := 8) (lv := [(4, .int ((M1 2) oo)), (0, .ref (ad B)), (1, .int (nI oo)), (2, .int (nI mm)), (3, .int (v))]) (fun K => ?_) (fun ls hl => ?_)
  · skip
    refine lv_aload_n hx hb dX5_put_27 rfl (lv_at hl 1 rfl) ?_
    refine lv_iload hx hb dX5_put_28 (lv_at hl 0 rfl) ?_
    refine vp_callSi (va_Run.run (va_runV (As := [.int ((M1 2) oo)]) (rest := [.int ((M1 0) oo)]) ⟨hx, hb, hml, hown, hK.1.use _⟩ (c_X5_has l D cy z0 ad V1 B n M1 (M1 2 oo) hT) (k_X5_X5_has hK.1 rfl rfl ⟨Nat.le_of_ble_eq_true rfl, Nat.le_of_ble_eq_true rfl⟩) (preV hK (Nat.le_trans hz hS.1) hW hT0 rfl) rfl rfl hl.1 rfl (lv_room (Nat.le_of_ble_eq_true rfl)) dX5_put_30 ⟨Nat.le_of_ble_eq_true rfl, Nat.le_of_ble_eq_true rfl⟩)) (fun r30 h30 => ?_)
    have h30 : r30 = b2i (hasB n (M1 2 oo)) := h30
    subst h30
    refine lv_if_eq (tgt := 48) hx hb dX5_put_33 (by decide) (fun c33 => ?_) (fun c33 => ?_)
    · skip
      have c33 := b2i_0.mp c33
      refine lv_iconst (v := nI 0) hx hb dX5_put_48 (by decide) ?_
      refine asi (y := if hasB n (M1 2 oo) = true then M1 3 (M1 2 oo).toNatClampNeg else nI 0) (by simp [c33]) ?_
      exact K ls (lv_sub hl [0, 1, 2, 3, 4] rfl)
    · skip
      have c33 := b2i_1.mp c33
      have hb9 := hasB_of c33 (by omega)
      refine lv_aload_n hx hb dX5_put_36 rfl (lv_at hl 1 rfl) ?_
      refine g_X5_X5_rows hx hb hown hK hW hT0 dX5_put_37 ?_
      refine lv_iconst (v := nI 3) hx hb dX5_put_40 (by decide) ?_
      refine w_aald hx hb hK hW 3 rfl rfl hT1 (j := 3) (rfl) (by omega) (by omega) dX5_put_41 ?_
      refine asv (y := .ref (ad (B + 2 + 3))) (el4 (by omega)) ?_
      refine lv_iload hx hb dX5_put_42 (lv_at hl 0 rfl) ?_
      refine w_iald hx hb hK hW hTr3 (j := (M1 2 oo).toNatClampNeg) (hb9.1) (by omega) (by omega) dX5_put_44 ?_
      refine lv_goto (tgt := 49) hx hb dX5_put_45 (by decide) ?_
      refine asi (y := if hasB n (M1 2 oo) = true then M1 3 (M1 2 oo).toNatClampNeg else nI 0) (by simp [c33]) ?_
      exact K ls (lv_sub hl [0, 1, 2, 3, 4] rfl)
  · skip
    refine lv_iadd hx hb dX5_put_49 ?_
    refine asi (y := dueM n M1 oo) (rfl) ?_
    refine lv_istore (lv' := [(5, .int (dueM n M1 oo)), (4, .int ((M1 2) oo)), (0, .ref (ad B)), (1, .int (nI oo)), (2, .int (nI mm)), (3, .int (v))]) hx hb dX5_put_50 hl (by decide) rfl (fun ls hl => ?_)
    refine lv_iload hx hb dX5_put_52 (lv_at hl 0 rfl) ?_
    refine lv_aload_n hx hb dX5_put_54 rfl (lv_at hl 2 rfl) ?_
    refine g_X5_X5_rows hx hb hown hK hW hT0 dX5_put_55 ?_
    refine lv_iconst (v := nI 3) hx hb dX5_put_58 (by decide) ?_
    refine w_aald hx hb hK hW 3 rfl rfl hT1 (j := 3) (rfl) (by omega) (by omega) dX5_put_59 ?_
    refine asv (y := .ref (ad (B + 2 + 3))) (el4 (by omega)) ?_
    refine lv_iload_n hx hb dX5_put_60 rfl (lv_at hl 3 rfl) ?_
    refine w_iald hx hb hK hW hTr3 (j := oo) (rfl) (by omega) (by omega) dX5_put_61 ?_
    refine lv_isub hx hb dX5_put_62 ?_
    refine lv_istore (lv' := [(6, .int ((dueM n M1 oo) - ((M1 3) oo))), (5, .int (dueM n M1 oo)), (4, .int ((M1 2) oo)), (0, .ref (ad B)), (1, .int (nI oo)), (2, .int (nI mm)), (3, .int (v))]) hx hb dX5_put_63 hl (by decide) rfl (fun ls hl => ?_)
    obtain ⟨df, edf⟩ : ∃ x, x = dueM n M1 oo - M1 3 oo := ⟨_, rfl⟩
    have hq65_6 : ((dueM n M1 oo) - ((M1 3) oo)) = (df) := edf.symm
    rw [hq65_6] at hl
    refine lv_iconst (v := nI 0) hx hb dX5_put_65 (by decide) ?_
    refine lv_istore (lv' := [(7, .int (nI 0)), (6, .int (df)), (5, .int (dueM n M1 oo)), (4, .int ((M1 2) oo)), (0, .ref (ad B)), (1, .int (nI oo)), (2, .int (nI mm)), (3, .int (v))]) hx hb dX5_put_66 hl (by decide) rfl (fun ls hl => ?_)
    refine wlh (ι := Nat) (fun i => n - i) (fun i H locs g => (i ≤ n) ∧ (∃ X, (isT ad X cy B n (movM n M1 oo df i) ∧ ∀ L, (L < B ∨ B + 6 ≤ L) → X L = V L) ∧ HW D z0 ad X H) ∧ va_S (AA z0) s.heap H locs ∧ ∃ ls, g = F0 m 68 ls [] ∧ lv_has ls 8 [(0, .ref (ad B)), (1, .int (nI oo)), (6, .int (df)), (7, .int (nI i))]) ?_ (0) _ _ _ ⟨Nat.zero_le _, ⟨_, ⟨by rw [movM_0]; exact hT, hfr⟩, hW⟩, hS, ls, rfl, lv_sub hl [4, 5, 1, 0] rfl⟩
    intro i H locs g hg ih
    obtain ⟨hi, ⟨Vl, ⟨hTi, hfr⟩, hW⟩, hS, ls, rfl, hl⟩ := hg
    obtain ⟨hT0, hT1, hTr⟩ := id hTi
    have hTr3 := hTr 3 (by omega)
    refine lv_iload hx hb dX5_put_68 (lv_at hl 3 rfl) ?_
    refine lv_aload_n hx hb dX5_put_70 rfl (lv_at hl 0 rfl) ?_
    refine g_X5_X5_objects hx hb hown hK hW hT0 dX5_put_71 ?_
    refine lv_icmp_ge (tgt := 112) hx hb dX5_put_74 (by decide) (fun c74 => ?_) (fun c74 => ?_)
    · skip
      have c74 := nI_le' c74 (by omega) (by omega)
      exact rwv hx hb hr hlocks dX5_put_112 hW hS (⟨rfl, by first | (have e9 : i = n := (by omega); rw [e9] at hTi; unfold putM; rw [← eM1, ← edf]; exact hTi) | (unfold putM; rw [← eM1, ← edf]; have e8 : df = 0 := c79; rw [e8] at hTi ⊢; rw [movM_z n M1 oo n i]; exact hTi), hfr⟩)
    · skip
      have c74 := nI_nle' c74 (by omega) (by omega)
      refine lv_iload hx hb dX5_put_77 (lv_at hl 2 rfl) ?_
      refine lv_if_eq (tgt := 112) hx hb dX5_put_79 (by decide) (fun c79 => ?_) (fun c79 => ?_)
      · skip
        exact rwv hx hb hr hlocks dX5_put_112 hW hS (⟨rfl, by first | (have e9 : i = n := (by omega); rw [e9] at hTi; unfold putM; rw [← eM1, ← edf]; exact hTi) | (unfold putM; rw [← eM1, ← edf]; have e8 : df = 0 := c79; rw [e8] at hTi ⊢; rw [movM_z n M1 oo n i]; exact hTi), hfr⟩)
      · skip
        refine lv_aload_n hx hb dX5_put_82 rfl (lv_at hl 0 rfl) ?_
        refine lv_iload hx hb dX5_put_83 (lv_at hl 3 rfl) ?_
        refine lv_iload_n hx hb dX5_put_85 rfl (lv_at hl 1 rfl) ?_
        refine vp_callSi (va_Run.run (va_runV (As := [.int (nI i), .int (nI oo)]) (rest := []) ⟨hx, hb, hml, hown, hK.1.use _⟩ (c_X5_leads l D cy z0 ad Vl B n (movM n M1 oo df i) hTi hn40 (nI i) (nI oo)) (k_X5_X5_leads hK.1 rfl rfl ⟨Nat.le_of_ble_eq_true rfl, Nat.le_of_ble_eq_true rfl⟩) (preV hK (Nat.le_trans hz hS.1) hW hT0 rfl) rfl rfl hl.1 rfl (lv_room (Nat.le_of_ble_eq_true rfl)) dX5_put_86 ⟨Nat.le_of_ble_eq_true rfl, Nat.le_of_ble_eq_true rfl⟩)) (fun r86 h86 => ?_)
        have h86 : r86 = b2i (ldB n (M1 2) n (nI i) (nI oo)) := h86
        subst h86
        refine lv_if_eq (tgt := 106) hx hb dX5_put_89 (by decide) (fun c89 => ?_) (fun c89 => ?_)
        · skip
          have c89 := b2i_0.mp c89
          refine lv_iinc (v := nI (i + 1)) (lv' := [(7, .int (nI (i + 1))), (0, .ref (ad B)), (1, .int (nI oo)), (6, .int (df))]) hx hb dX5_put_106 hl (k := 3) rfl (by rw [show Int32.ofInt 1 = nI 1 from by decide]; exact nI_add _ _) (by decide) rfl (fun ls hl => ?_)
          refine lv_goto (tgt := 68) hx hb dX5_put_109 (by decide) ?_
          exact ih (i + 1) _ _ _ ⟨by omega, ⟨_, ⟨by rw [movM_no c89]; exact hTi, hfr⟩, hW⟩, hS, ls, rfl, lv_sub hl [1, 2, 3, 0] rfl⟩ (by omega)
        · skip
          have c89 := b2i_1.mp c89
          refine lv_aload_n hx hb dX5_put_92 rfl (lv_at hl 0 rfl) ?_
          refine g_X5_X5_rows hx hb hown hK hW hT0 dX5_put_93 ?_
          refine lv_iconst (v := nI 3) hx hb dX5_put_96 (by decide) ?_
          refine w_aald hx hb hK hW 3 rfl rfl hT1 (j := 3) (rfl) (by omega) (by omega) dX5_put_97 ?_
          refine asv (y := .ref (ad (B + 2 + 3))) (el4 (by omega)) ?_
          refine lv_iload hx hb dX5_put_98 (lv_at hl 3 rfl) ?_
          refine lv_dup2_11 hx hb dX5_put_100 rfl rfl ?_
          refine w_iald hx hb hK hW hTr3 (j := i) (rfl) (by omega) (by omega) dX5_put_101 ?_
          refine lv_iload hx hb dX5_put_102 (lv_at hl 2 rfl) ?_
          refine lv_iadd hx hb dX5_put_104 ?_
          refine w_iast hx hb hK hW hS hTr3 (j := i) (rfl) (by omega) (by omega) dX5_put_105 (fun H locs hW hS => ?_)
          obtain ⟨V2, eV2⟩ : ∃ x, x = va_up Vl (B + 2 + 3) (some (.inl (cy 0, 40, .inl (upd ((movM n M1 oo df i) 3) i ((((movM n M1 oo df i) 3) i) + df))))) := ⟨_, rfl⟩
          rw [← eV2] at hW
          have hT0 : V2 (B) = some (.inr (5, [.ref (ad (B + 1)), .int (nI n)])) := by rw [eV2, va_up_ne _ _ (by omega)]; exact hT0
          have hT1 : V2 (B + 1) = some (.inl (cy 3, 4, .inr (.inr (.inr (.inr (fun i => if i < 4 then some (ad (B + 2 + i)) else none)))))) := by rw [eV2, va_up_ne _ _ (by omega)]; exact hT1
          have hTr3 : V2 (B + 2 + 3) = some (.inl (cy 0, 40, .inl (upd ((movM n M1 oo df i) 3) i ((((movM n M1 oo df i) 3) i) + df)))) := by rw [eV2, va_up_self]
          refine lv_iinc (v := nI (i + 1)) (lv' := [(7, .int (nI (i + 1))), (0, .ref (ad B)), (1, .int (nI oo)), (6, .int (df))]) hx hb dX5_put_106 hl (k := 3) rfl (by rw [show Int32.ofInt 1 = nI 1 from by decide]; exact nI_add _ _) (by decide) rfl (fun ls hl => ?_)
          refine lv_goto (tgt := 68) hx hb dX5_put_109 (by decide) ?_
          exact ih (i + 1) _ _ _ ⟨by omega, ⟨_, ⟨⟨hT0, hT1, fun q hq => by
        rw [eV2]
        by_cases h2 : q = 3
        · subst h2; rw [va_up_self, movM_yes c89]
        · rw [va_up_ne _ _ (by omega), hTr q hq]; simp [movM, h2]⟩, fun L hL => by rw [eV2, va_up_ne _ _ (by omega)]; exact hfr L hL⟩, hW⟩, hS, ls, rfl, lv_sub hl [1, 2, 3, 0] rfl⟩ (by omega)
end
section
/-! the plans' own cells; what plans reckon -/
abbrev RuT : Type := Nat → Nat × Nat × Int32 × Int32 × Int32
def isBk (ad : Nat → Nat) (V : Nat → Option va_E) (cy : Nat → ClassId) (k : Nat) (ρ : RuT) : Prop :=
  V 1 = some (.inr (3, [.ref (ad 2), .int (nI k)])) ∧ V 2 = some (.inl (cy 6, 12, .inr (.inr (.inr (.inr (fun i => if i < k then some (ad (10 + i)) else none)))))) ∧ ∀ r, r < k → isR V (10 + r) (ρ r).1 (ρ r).2.1 (ρ r).2.2.1 (ρ r).2.2.2.1 (ρ r).2.2.2.2
def okR (k : Nat) (ρ : RuT) : Prop := k ≤ 12 ∧ ∀ r, r < k → (ρ r).1 < 6 ∧ (ρ r).2.1 < 4
theorem elK {ad : Nat → Nat} {b k j : Nat} (h : j < k) : va_rf ((fun i => if i < k then some (ad (b + i)) else none) j) = .ref (ad (b + j)) := by
  simp only [h, if_true]
  rfl
def isC (ad : Nat → Nat) (V : Nat → Option va_E) (cy : Nat → ClassId) (PB n : Nat) (M : Nat → Nat → Int32) (n2 : Nat) (M2 : Nat → Nat → Int32) (kp : Nat → Int64) (fb : Nat → Bool) (ch co fo : Int32) (bb : Bool) (bk : Int32) : Prop :=
  V PB = some (.inr (1, [.ref (ad 1), .ref (ad (PB + 1)), .ref (ad (PB + 7)), .ref (ad (PB + 13)), .ref (ad (PB + 14)), .ref (ad (PB + 15)), .int ch, .int co, .int fo, .int (b2i bb), .int bk])) ∧ isT ad V cy (PB + 1) n M ∧ isT ad V cy (PB + 7) n2 M2 ∧ V (PB + 13) = some (.inl (cy 1, 12, .inr (.inl kp))) ∧ V (PB + 14) = some (.inl (cy 2, 12, .inl (fun r => b2i (fb r))))
def isH (ad : Nat → Nat) (V : Nat → Option va_E) (cy : Nat → ClassId) (PB : Nat) (ho hm hv : Nat → Int32) (hk : Nat → Nat → Int64) (nx kn : Nat) : Prop :=
  V (PB + 15) = some (.inr (0, [.ref (ad (PB + 16)), .ref (ad (PB + 17)), .ref (ad (PB + 18)), .ref (ad (PB + 19)), .int (nI nx), .int (nI kn)])) ∧ V (PB + 16) = some (.inl (cy 0, 60, .inl ho)) ∧ V (PB + 17) = some (.inl (cy 0, 60, .inl hm)) ∧ V (PB + 18) = some (.inl (cy 0, 60, .inl hv)) ∧ V (PB + 19) = some (.inl (cy 4, 60, .inr (.inr (.inr (.inr (fun i => if i < 60 then some (ad (PB + 20 + i)) else none)))))) ∧ ∀ i, i < 60 → V (PB + 20 + i) = some (.inl (cy 1, 12, .inr (.inl (hk i))))
def wthR (ρ : RuT) (r : Nat) (M : Nat → Nat → Int32) (n : Nat) : Int64 := wth (ρ r).1 (ρ r).2.2.1 (ρ r).2.2.2.1 (M (ρ r).2.1) (M 2) n
def ctR (ρ : RuT) (r : Nat) (M M2 : Nat → Nat → Int32) (n : Nat) : Nat := ctT (ρ r).1 (M (ρ r).2.1) (M2 (ρ r).2.1) (M 2) (M2 2) n
def ffI (P : Nat → Bool) : Nat → Nat → Int32
  | 0, _ => -1
  | j + 1, i => if P i = true then nI i else ffI P j (i + 1)
def flB (ρ : RuT) (M : Nat → Nat → Int32) (n : Nat) (kp : Nat → Int64) (r : Nat) : Bool := decide (¬ kp r = wthR ρ r M n)
def scL (ρ : RuT) (kp : Nat → Int64) (lv : Int32) : Nat → Int64
  | 0 => 0
  | r + 1 => if (ρ r).2.2.2.2 = lv then scL ρ kp lv r + kp r else scL ρ kp lv r
def cfT (fb : Nat → Bool) : Nat → Nat
  | 0 => 0
  | r + 1 => cfT fb r + (if fb r = true then 1 else 0)
def gnL (ρ : RuT) (r : Nat) (fb : Nat → Bool) (M : Nat → Nat → Int32) (n : Nat) (M2 : Nat → Nat → Int32) (n2 : Nat) : Int64 :=
  if fb r = true ∨ ctR ρ r M M2 n = 0 then 0 else wthR ρ r M2 n2 - wthR ρ r M n
def ctS (ρ : RuT) (M M2 : Nat → Nat → Int32) (n : Nat) : Nat → Nat
  | 0 => 0
  | r + 1 => ctS ρ M M2 n r + ctR ρ r M M2 n
theorem ctT_le (kd : Nat) (f f2 g g2 : Nat → Int32) : ∀ n, ctT kd f f2 g g2 n ≤ n
  | 0 => Nat.le_refl 0
  | n + 1 => by
    have := ctT_le kd f f2 g g2 n
    unfold ctT
    split <;> omega
/-- the world outside a range is the same: tables, rules, plans, histories stay -/
theorem isT.mv {ad : Nat → Nat} {V X : Nat → Option va_E} {cy : Nat → ClassId} {B n : Nat} {M : Nat → Nat → Int32} (h : isT ad V cy B n M) (hs : ∀ L, B ≤ L → L < B + 6 → X L = V L) : isT ad X cy B n M :=
  ⟨(hs B (by omega) (by omega)).trans h.1, (hs _ (by omega) (by omega)).trans h.2.1, fun m hm => (hs _ (by omega) (by omega)).trans (h.2.2 m hm)⟩
theorem isBk.mv {ad : Nat → Nat} {V X : Nat → Option va_E} {cy : Nat → ClassId} {k : Nat} {ρ : RuT} (h : isBk ad V cy k ρ) (hk : k ≤ 12) (hs : ∀ L, 1 ≤ L → L < 22 → X L = V L) : isBk ad X cy k ρ :=
  ⟨(hs 1 (by omega) (by omega)).trans h.1, (hs 2 (by omega) (by omega)).trans h.2.1, fun r hr => (hs (10 + r) (by omega) (by omega)).trans (h.2.2 r hr)⟩
theorem isC.mv {ad : Nat → Nat} {V X : Nat → Option va_E} {cy : Nat → ClassId} {PB n : Nat} {M : Nat → Nat → Int32} {n2 : Nat} {M2 : Nat → Nat → Int32} {kp : Nat → Int64} {fb : Nat → Bool} {ch co fo : Int32} {bb : Bool} {bk : Int32} (h : isC ad V cy PB n M n2 M2 kp fb ch co fo bb bk) (hs : ∀ L, PB ≤ L → L < PB + 15 → X L = V L) : isC ad X cy PB n M n2 M2 kp fb ch co fo bb bk :=
  ⟨(hs _ (by omega) (by omega)).trans h.1, h.2.1.mv (fun L h1 h2 => hs L (by omega) (by omega)), h.2.2.1.mv (fun L h1 h2 => hs L (by omega) (by omega)), (hs _ (by omega) (by omega)).trans h.2.2.2.1, (hs _ (by omega) (by omega)).trans h.2.2.2.2⟩
theorem isH.mv {ad : Nat → Nat} {V X : Nat → Option va_E} {cy : Nat → ClassId} {PB : Nat} {ho hm hv : Nat → Int32} {hk : Nat → Nat → Int64} {nx kn : Nat} (h : isH ad V cy PB ho hm hv hk nx kn) (hs : ∀ L, PB + 15 ≤ L → L < PB + 80 → X L = V L) : isH ad X cy PB ho hm hv hk nx kn :=
  ⟨(hs _ (by omega) (by omega)).trans h.1, (hs _ (by omega) (by omega)).trans h.2.1, (hs _ (by omega) (by omega)).trans h.2.2.1, (hs _ (by omega) (by omega)).trans h.2.2.2.1, (hs _ (by omega) (by omega)).trans h.2.2.2.2.1, fun i hi => (hs _ (by omega) (by omega)).trans (h.2.2.2.2.2 i hi)⟩
def fgI (k : Nat) (fb : Nat → Bool) (ch co fo : Int32) (bb : Bool) (kn : Nat) (w : Int32) : Int32 :=
  if w = nI 0 then ch else if w = nI 1 then nI kn else if w = nI 2 then co else if w = nI 3 then fo else if w = nI 4 then b2i bb else if w = nI 5 then nI (cfT fb k) else -1
theorem isC.lay {ad : Nat → Nat} {V X : Nat → Option va_E} {cy : Nat → ClassId} {PB n : Nat} {M : Nat → Nat → Int32} {n2 : Nat} {M2 : Nat → Nat → Int32} {kp : Nat → Int64} {fb : Nat → Bool} {ch co fo : Int32} {bb : Bool} {bk : Int32} (h : isC ad V cy PB n M n2 M2 kp fb ch co fo bb bk) {n3 : Nat} {M3 : Nat → Nat → Int32} (hT : isT ad X cy (PB + 7) n3 M3) (hs : ∀ L, (L < PB + 7 ∨ PB + 7 + 6 ≤ L) → X L = V L) : isC ad X cy PB n M n3 M3 kp fb ch co fo bb bk :=
  ⟨(hs _ (by omega)).trans h.1, h.2.1.mv (fun L h1 h2 => hs L (by omega)), hT, (hs _ (by omega)).trans h.2.2.2.1, (hs _ (by omega)).trans h.2.2.2.2⟩
theorem isC.now {ad : Nat → Nat} {V X : Nat → Option va_E} {cy : Nat → ClassId} {PB n : Nat} {M : Nat → Nat → Int32} {n2 : Nat} {M2 : Nat → Nat → Int32} {kp : Nat → Int64} {fb : Nat → Bool} {ch co fo : Int32} {bb : Bool} {bk : Int32} (h : isC ad V cy PB n M n2 M2 kp fb ch co fo bb bk) {n3 : Nat} {M3 : Nat → Nat → Int32} (hT : isT ad X cy (PB + 1) n3 M3) (hs : ∀ L, (L < PB + 1 ∨ PB + 1 + 6 ≤ L) → X L = V L) : isC ad X cy PB n3 M3 n2 M2 kp fb ch co fo bb bk :=
  ⟨(hs _ (by omega)).trans h.1, hT, h.2.2.1.mv (fun L h1 h2 => hs L (by omega)), (hs _ (by omega)).trans h.2.2.2.1, (hs _ (by omega)).trans h.2.2.2.2⟩
theorem Zt_upd {n : Nat} {M : Nat → Nat → Int32} (h : Zt n M) {m o : Nat} (v : Int32) (ho : o < n) : Zt n (updM M m o v) := by
  intro k x hx
  unfold updM
  split
  · next e => rw [pk_un (by omega)]; subst e; exact h k x hx
  · exact h k x hx
theorem Zt_put {n : Nat} {M : Nat → Nat → Int32} (h : Zt n M) {m o : Nat} (v : Int32) (ho : o < n) : Zt n (putM n M m o v) := by
  intro k x hx
  unfold putM movM
  have hz := Zt_upd h (m := m) v ho
  split
  · have hn : ¬ (x < n ∧ ldB n (updM M m o v 2) n (nI x) (nI o) = true) := fun q => by omega
    show (if x < n ∧ ldB n (updM M m o v 2) n (nI x) (nI o) = true then _ else _) = (0 : Int32)
    rw [if_neg hn]
    exact hz 3 x hx
  · exact hz k x hx
theorem tkB_of {n : Nat} {g : Nat → Int32} {o m v : Int32} (h : tkB n g o m v = true) (hn : n < 2147483648) : ∃ oo mm, oo < n ∧ o = nI oo ∧ mm < 3 ∧ m = nI mm := by
  unfold tkB at h
  rw [Bool.and_eq_true] at h
  obtain ⟨e1, h1⟩ := hasB_of h.1 hn
  refine ⟨_, if m = nI 0 then 0 else if m = nI 1 then 1 else 2, h1, e1, ?_⟩
  have h2 := h.2
  by_cases q0 : m = nI 0
  · rw [if_pos q0]; exact ⟨by omega, q0⟩
  · rw [if_neg q0] at h2 ⊢
    by_cases q1 : m = nI 1
    · rw [if_pos q1]; exact ⟨by omega, q1⟩
    · rw [if_neg q1] at h2 ⊢
      by_cases q2 : m = nI 2
      · exact ⟨by omega, q2⟩
      · rw [if_neg q2] at h2; cases h2
def nxU (nx : Nat) : Nat := if nx + 1 < 60 then nx + 1 else 0
def nxD (nx : Nat) : Nat := if 0 < nx then nx - 1 else 59
def knU (kn : Nat) : Nat := if 60 < kn + 1 then 60 else kn + 1
def hsU (hs : Nat → Nat → Int64) (nx : Nat) (kp : Nat → Int64) : Nat → Nat → Int64 := fun i => if i = nx then va_cpy kp (hs nx) 0 0 12 else hs i
/-- the score behind, with what the first rules bring -/
def sbL (ρ : RuT) (kp : Nat → Int64) (fb : Nat → Bool) (lv : Int32) (k : Nat) (M : Nat → Nat → Int32) (n : Nat) (M3 : Nat → Nat → Int32) : Nat → Int64
  | 0 => scL ρ kp lv k
  | r + 1 => if (ρ r).2.2.2.2 = lv then sbL ρ kp fb lv k M n M3 r + gnL ρ r fb M n M3 n else sbL ρ kp fb lv k M n M3 r
/-- the kept numbers, the first i of them moved by what g says -/
def kpU (kp : Nat → Int64) (g : Nat → Int64) (i : Nat) : Nat → Int64 := fun r => if r < i then kp r + g r else kp r
theorem kpU_0 (kp g : Nat → Int64) : kpU kp g 0 = kp := by funext r; simp [kpU]
theorem kpU_s (kp g : Nat → Int64) (i : Nat) : vp_updL (kpU kp g i) i (kpU kp g i i + g i) = kpU kp g (i + 1) := by
  funext r
  by_cases h : r = i
  · subst h; simp [kpU, vp_updL]
  · have : r < i + 1 ↔ r < i := by omega
    simp [kpU, vp_updL, h, this]
theorem knU_eq {kn : Nat} (h0 : kn ≤ 60) : (if nI 60 < nI (kn + 1) then nI 60 else nI (kn + 1)) = nI (knU kn) := by
  unfold knU
  by_cases h : 60 < kn + 1
  · rw [if_pos h, if_pos (nI_lt h (by omega))]
  · rw [if_neg h, if_neg (nI_nlt (by omega) (by omega))]
/-- the place of the i-th latest change -/
def rix (nx i : Nat) : Nat := (nx + 119 - i) % 60
theorem rix_0 {nx : Nat} (h : nx < 60) : rix nx 0 = nxD nx := by unfold rix nxD; split <;> omega
theorem rix_s {nx i : Nat} (h : nx < 60) (hi : i < 59) : rix (nxD nx) i = rix nx (i + 1) := by unfold rix nxD; split <;> omega
theorem rix_U0 {nx : Nat} (h : nx < 60) : rix (nxU nx) 0 = nx := by unfold rix nxU; split <;> omega
theorem rix_Us {nx i : Nat} (h : nx < 60) (hi : i < 59) : rix (nxU nx) (i + 1) = rix nx i := by unfold rix nxU; split <;> omega
theorem rix_ne {nx i : Nat} (h : nx < 60) (hi : i < 59) : ¬ rix nx i = nx := by unfold rix; omega
theorem rix_lt (nx i : Nat) : rix nx i < 60 := Nat.mod_lt _ (by omega)
theorem nxD_lt {nx : Nat} (h : nx < 60) : nxD nx < 60 := by unfold nxD; split <;> omega
theorem nxU_lt {nx : Nat} (h : nx < 60) : nxU nx < 60 := by unfold nxU; split <;> omega
/-- what is known can be taken back: places and members are such -/
def hOK (n : Nat) (ho hm : Nat → Int32) (nx kn : Nat) : Prop := ∀ i, i < kn → ∃ oo mm, oo < n ∧ mm < 3 ∧ ho (rix nx i) = nI oo ∧ hm (rix nx i) = nI mm
/-- a plan's own numbers that taking back changes: rows, kept numbers, cost, place, how many are known, and in the batch -/
abbrev TbT : Type := (Nat → Nat → Int32) × (Nat → Int64) × Int32 × Nat × Nat × Nat
def tbM (n : Nat) (ho hm hv : Nat → Int32) (M : Nat → Nat → Int32) (j : Nat) : Nat → Nat → Int32 := putM n M (hm j).toNatClampNeg (ho j).toNatClampNeg (hv j)
def tbF (n k : Nat) (ρ : RuT) (ho hm hv : Nat → Int32) (hs : Nat → Nat → Int64) (bb : Bool) (x : TbT) : TbT :=
  (tbM n ho hm hv x.1 (nxD x.2.2.2.1), va_cpy (hs (nxD x.2.2.2.1)) x.2.1 0 0 12, x.2.2.1 + nI (ctS ρ x.1 (tbM n ho hm hv x.1 (nxD x.2.2.2.1)) n k), nxD x.2.2.2.1, x.2.2.2.2.1 - 1, if bb = true then x.2.2.2.2.2 - 1 else x.2.2.2.2.2)
def tbI (n k : Nat) (ρ : RuT) (ho hm hv : Nat → Int32) (hs : Nat → Nat → Int64) (bb : Bool) : Nat → TbT → TbT
  | 0, x => x
  | i + 1, x => tbF n k ρ ho hm hv hs bb (tbI n k ρ ho hm hv hs bb i x)
end
section
set_option maxHeartbeats 4000000 in
set_option maxRecDepth 100000 in
theorem c_X1_gain (l : Launch) (D : va_G) (cy : Nat → ClassId) (z0 : Nat) (ad : Nat → Nat) (V : Nat → Option va_E) (PB n n2 k : Nat) (M M2 : Nat → Nat → Int32) (kp : Nat → Int64) (fb : Nat → Bool) (ch co fo bk : Int32) (bb : Bool) (ρ : RuT) (hC : isC ad V cy PB n M n2 M2 kp fb ch co fo bb bk) (hB : isBk ad V cy k ρ) (hk : okR k ρ) (hn40 : n ≤ 40) (hn2 : n2 ≤ 40) (hPB : 100 ≤ PB) (rr : Nat) (hrr : rr < k) : Met l yX1_gain [Cond.code yX1_gain cX1_gain 2 (some .long)] { frames := 3, cells := 0, slots := 0, locals := 75 } (WP [.ref (ad PB), .int (nI rr)] D cy z0 ad V) (vp_Sl (fun r => r = wthR ρ rr M2 n2 - wthR ρ rr M n)) 0 0 (fun _ => False) := by
  refine met_of (by decide) (Nat.le_of_ble_eq_true rfl) (fun p e s m below meth c hx hb hr hml hown hlocks hnm hK hz hW ls hl => ?_)
  have hown : s.vm.findClass RX1 = some m.cls := hown
  have hl : lv_has ls 2 [(0, .ref (ad PB)), (1, .int (nI rr))] := hl
  have hk12 := hk.1
  obtain ⟨hC0, hCT, hCU, hC3, hC4⟩ := id hC
  obtain ⟨hT0, hT1, hTr⟩ := id hCT
  obtain ⟨hU0, hU1, hUr⟩ := id hCU
  obtain ⟨hB0, hB1, hBr⟩ := id hB
  have hBrrr := hBr rr (by omega)
  have hkrr := hk.2 rr (by omega)
  refine lv_aload_n hx hb dX1_gain_0 rfl (lv_at hl 0 rfl) ?_
  refine g_X1_X1_book hx hb hown hK hW hC0 dX1_gain_1 ?_
  refine g_X1_X3_rules hx hb hown hK hW hB0 dX1_gain_4 ?_
  refine lv_iload_n hx hb dX1_gain_7 rfl (lv_at hl 1 rfl) ?_
  refine w_aald hx hb hK hW 6 rfl rfl hB1 (j := rr) (rfl) (by omega) (by omega) dX1_gain_8 ?_
  refine asv (y := .ref (ad (10 + rr))) (elK (by omega)) ?_
  refine lv_aload_n hx hb dX1_gain_9 rfl (lv_at hl 0 rfl) ?_
  refine g_X1_X1_behind hx hb hown hK hW hC0 dX1_gain_10 ?_
  refine vp_callSl (va_Run.run (va_runV (As := [.ref (ad (PB + 7))]) (rest := []) ⟨hx, hb, hml, hown, hK.1.use _⟩ (c_X2_fromNothing l D cy z0 ad V (10 + rr) (ρ rr).1 (ρ rr).2.1 (ρ rr).2.2.1 (ρ rr).2.2.2.1 (ρ rr).2.2.2.2 hBrrr hkrr.1 hkrr.2 (PB + 7) n2 M2 hCU (by omega)) (k_X1_X2_fromNothing hK.1 rfl rfl ⟨Nat.le_of_ble_eq_true rfl, Nat.le_of_ble_eq_true rfl⟩) (preV hK hz hW hBrrr rfl) rfl rfl hl.1 rfl (lv_room (Nat.le_of_ble_eq_true rfl)) dX1_gain_13 ⟨Nat.le_of_ble_eq_true rfl, Nat.le_of_ble_eq_true rfl⟩)) (fun r13 h13 => ?_)
  have h13 : r13 = wthR ρ rr M2 n2 := h13
  subst h13
  refine lv_aload_n hx hb dX1_gain_16 rfl (lv_at hl 0 rfl) ?_
  refine g_X1_X1_book hx hb hown hK hW hC0 dX1_gain_17 ?_
  refine g_X1_X3_rules hx hb hown hK hW hB0 dX1_gain_20 ?_
  refine lv_iload_n hx hb dX1_gain_23 rfl (lv_at hl 1 rfl) ?_
  refine w_aald hx hb hK hW 6 rfl rfl hB1 (j := rr) (rfl) (by omega) (by omega) dX1_gain_24 ?_
  refine asv (y := .ref (ad (10 + rr))) (elK (by omega)) ?_
  refine lv_aload_n hx hb dX1_gain_25 rfl (lv_at hl 0 rfl) ?_
  refine g_X1_X1_now hx hb hown hK hW hC0 dX1_gain_26 ?_
  refine vp_callSl (va_Run.run (va_runV (As := [.ref (ad (PB + 1))]) (rest := [.long (wthR ρ rr M2 n2)]) ⟨hx, hb, hml, hown, hK.1.use _⟩ (c_X2_fromNothing l D cy z0 ad V (10 + rr) (ρ rr).1 (ρ rr).2.1 (ρ rr).2.2.1 (ρ rr).2.2.2.1 (ρ rr).2.2.2.2 hBrrr hkrr.1 hkrr.2 (PB + 1) n M hCT (by omega)) (k_X1_X2_fromNothing hK.1 rfl rfl ⟨Nat.le_of_ble_eq_true rfl, Nat.le_of_ble_eq_true rfl⟩) (preV hK hz hW hBrrr rfl) rfl rfl hl.1 rfl (lv_room (Nat.le_of_ble_eq_true rfl)) dX1_gain_29 ⟨Nat.le_of_ble_eq_true rfl, Nat.le_of_ble_eq_true rfl⟩)) (fun r29 h29 => ?_)
  have h29 : r29 = wthR ρ rr M n := h29
  subst h29
  refine lv_lsub hx hb dX1_gain_32 ?_
  exact rl hx hb hr hlocks dX1_gain_33 (rfl)

set_option maxHeartbeats 4000000 in
set_option maxRecDepth 100000 in
theorem c_X1_fromNothing (l : Launch) (D : va_G) (cy : Nat → ClassId) (z0 : Nat) (ad : Nat → Nat) (V : Nat → Option va_E) (PB n n2 k : Nat) (M M2 : Nat → Nat → Int32) (kp : Nat → Int64) (fb : Nat → Bool) (ch co fo bk : Int32) (bb : Bool) (ρ : RuT) (hC : isC ad V cy PB n M n2 M2 kp fb ch co fo bb bk) (hB : isBk ad V cy k ρ) (hk : okR k ρ) (hn40 : n ≤ 40) (hn2 : n2 ≤ 40) (hPB : 100 ≤ PB) (rr : Nat) (hrr : rr < k) : Met l yX1_fromNothing [Cond.code yX1_fromNothing cX1_fromNothing 2 (some .long)] { frames := 3, cells := 0, slots := 0, locals := 75 } (WP [.ref (ad PB), .int (nI rr)] D cy z0 ad V) (vp_Sl (fun r => r = wthR ρ rr M n)) 0 0 (fun _ => False) := by
  refine met_of (by decide) (Nat.le_of_ble_eq_true rfl) (fun p e s m below meth c hx hb hr hml hown hlocks hnm hK hz hW ls hl => ?_)
  have hown : s.vm.findClass RX1 = some m.cls := hown
  have hl : lv_has ls 2 [(0, .ref (ad PB)), (1, .int (nI rr))] := hl
  have hk12 := hk.1
  obtain ⟨hC0, hCT, hCU, hC3, hC4⟩ := id hC
  obtain ⟨hT0, hT1, hTr⟩ := id hCT
  obtain ⟨hU0, hU1, hUr⟩ := id hCU
  obtain ⟨hB0, hB1, hBr⟩ := id hB
  have hBrrr := hBr rr (by omega)
  have hkrr := hk.2 rr (by omega)
  refine lv_aload_n hx hb dX1_fromNothing_0 rfl (lv_at hl 0 rfl) ?_
  refine g_X1_X1_book hx hb hown hK hW hC0 dX1_fromNothing_1 ?_
  refine g_X1_X3_rules hx hb hown hK hW hB0 dX1_fromNothing_4 ?_
  refine lv_iload_n hx hb dX1_fromNothing_7 rfl (lv_at hl 1 rfl) ?_
  refine w_aald hx hb hK hW 6 rfl rfl hB1 (j := rr) (rfl) (by omega) (by omega) dX1_fromNothing_8 ?_
  refine asv (y := .ref (ad (10 + rr))) (elK (by omega)) ?_
  refine lv_aload_n hx hb dX1_fromNothing_9 rfl (lv_at hl 0 rfl) ?_
  refine g_X1_X1_now hx hb hown hK hW hC0 dX1_fromNothing_10 ?_
  refine vp_callSl (va_Run.run (va_runV (As := [.ref (ad (PB + 1))]) (rest := []) ⟨hx, hb, hml, hown, hK.1.use _⟩ (c_X2_fromNothing l D cy z0 ad V (10 + rr) (ρ rr).1 (ρ rr).2.1 (ρ rr).2.2.1 (ρ rr).2.2.2.1 (ρ rr).2.2.2.2 hBrrr hkrr.1 hkrr.2 (PB + 1) n M hCT (by omega)) (k_X1_X2_fromNothing hK.1 rfl rfl ⟨Nat.le_of_ble_eq_true rfl, Nat.le_of_ble_eq_true rfl⟩) (preV hK hz hW hBrrr rfl) rfl rfl hl.1 rfl (lv_room (Nat.le_of_ble_eq_true rfl)) dX1_fromNothing_13 ⟨Nat.le_of_ble_eq_true rfl, Nat.le_of_ble_eq_true rfl⟩)) (fun r13 h13 => ?_)
  have h13 : r13 = wthR ρ rr M n := h13
  subst h13
  exact rl hx hb hr hlocks dX1_fromNothing_16 (rfl)

set_option maxHeartbeats 4000000 in
set_option maxRecDepth 100000 in
theorem c_X1_isFalse (l : Launch) (D : va_G) (cy : Nat → ClassId) (z0 : Nat) (ad : Nat → Nat) (V : Nat → Option va_E) (PB n n2 k : Nat) (M M2 : Nat → Nat → Int32) (kp : Nat → Int64) (fb : Nat → Bool) (ch co fo bk : Int32) (bb : Bool) (ρ : RuT) (hC : isC ad V cy PB n M n2 M2 kp fb ch co fo bb bk) (hB : isBk ad V cy k ρ) (hk : okR k ρ) (hn40 : n ≤ 40) (hn2 : n2 ≤ 40) (hPB : 100 ≤ PB) (rr : Nat) (hrr : rr < k) : Met l yX1_isFalse [Cond.code yX1_isFalse cX1_isFalse 2 (some .boolean)] { frames := 3, cells := 0, slots := 0, locals := 75 } (WP [.ref (ad PB), .int (nI rr)] D cy z0 ad V) (vp_Si (fun r => r = b2i (flB ρ M n kp rr))) 0 0 (fun _ => False) := by
  refine met_of (by decide) (Nat.le_of_ble_eq_true rfl) (fun p e s m below meth c hx hb hr hml hown hlocks hnm hK hz hW ls hl => ?_)
  have hown : s.vm.findClass RX1 = some m.cls := hown
  have hl : lv_has ls 2 [(0, .ref (ad PB)), (1, .int (nI rr))] := hl
  have hk12 := hk.1
  obtain ⟨hC0, hCT, hCU, hC3, hC4⟩ := id hC
  obtain ⟨hT0, hT1, hTr⟩ := id hCT
  obtain ⟨hU0, hU1, hUr⟩ := id hCU
  obtain ⟨hB0, hB1, hBr⟩ := id hB
  have hBrrr := hBr rr (by omega)
  have hkrr := hk.2 rr (by omega)
  refine lv_aload_n hx hb dX1_isFalse_0 rfl (lv_at hl 0 rfl) ?_
  refine g_X1_X1_keptAt hx hb hown hK hW hC0 dX1_isFalse_1 ?_
  refine lv_iload_n hx hb dX1_isFalse_4 rfl (lv_at hl 1 rfl) ?_
  refine w_lald hx hb hK hW hC3 (j := rr) (rfl) (by omega) (by omega) dX1_isFalse_5 ?_
  refine lv_aload_n hx hb dX1_isFalse_6 rfl (lv_at hl 0 rfl) ?_
  refine g_X1_X1_book hx hb hown hK hW hC0 dX1_isFalse_7 ?_
  refine g_X1_X3_rules hx hb hown hK hW hB0 dX1_isFalse_10 ?_
  refine lv_iload_n hx hb dX1_isFalse_13 rfl (lv_at hl 1 rfl) ?_
  refine w_aald hx hb hK hW 6 rfl rfl hB1 (j := rr) (rfl) (by omega) (by omega) dX1_isFalse_14 ?_
  refine asv (y := .ref (ad (10 + rr))) (elK (by omega)) ?_
  refine lv_aload_n hx hb dX1_isFalse_15 rfl (lv_at hl 0 rfl) ?_
  refine g_X1_X1_now hx hb hown hK hW hC0 dX1_isFalse_16 ?_
  refine vp_callSl (va_Run.run (va_runV (As := [.ref (ad (PB + 1))]) (rest := [.long (kp rr)]) ⟨hx, hb, hml, hown, hK.1.use _⟩ (c_X2_fromNothing l D cy z0 ad V (10 + rr) (ρ rr).1 (ρ rr).2.1 (ρ rr).2.2.1 (ρ rr).2.2.2.1 (ρ rr).2.2.2.2 hBrrr hkrr.1 hkrr.2 (PB + 1) n M hCT (by omega)) (k_X1_X2_fromNothing hK.1 rfl rfl ⟨Nat.le_of_ble_eq_true rfl, Nat.le_of_ble_eq_true rfl⟩) (preV hK hz hW hBrrr rfl) rfl rfl hl.1 rfl (lv_room (Nat.le_of_ble_eq_true rfl)) dX1_isFalse_19 ⟨Nat.le_of_ble_eq_true rfl, Nat.le_of_ble_eq_true rfl⟩)) (fun r19 h19 => ?_)
  have h19 : r19 = wthR ρ rr M n := h19
  subst h19
  refine W.lcmp hx hb dX1_isFalse_22 ?_
  refine lv_if_eq (tgt := 30) hx hb dX1_isFalse_23 (by decide) (fun c23 => ?_) (fun c23 => ?_)
  · skip
    have c23 := (lg_cmp_eq _ _).mp c23
    refine lv_iconst (v := nI 0) hx hb dX1_isFalse_30 (by decide) ?_
    exact rz hx hb hr hlocks dX1_isFalse_31 (by first | exact b2i_n | rfl | decide) (by simp [flB, c23, b2i, nI])
  · skip
    have c23 : ¬ kp rr = wthR ρ rr M n := fun q => c23 ((lg_cmp_eq _ _).mpr q)
    refine lv_iconst (v := nI 1) hx hb dX1_isFalse_26 (by decide) ?_
    refine lv_goto (tgt := 31) hx hb dX1_isFalse_27 (by decide) ?_
    exact rz hx hb hr hlocks dX1_isFalse_31 (by first | exact b2i_n | rfl | decide) (by simp [flB, c23, b2i, nI])

set_option maxHeartbeats 4000000 in
set_option maxRecDepth 100000 in
theorem c_X1_firstFalse (l : Launch) (D : va_G) (cy : Nat → ClassId) (z0 : Nat) (ad : Nat → Nat) (V : Nat → Option va_E) (PB n n2 k : Nat) (M M2 : Nat → Nat → Int32) (kp : Nat → Int64) (fb : Nat → Bool) (ch co fo bk : Int32) (bb : Bool) (ρ : RuT) (hC : isC ad V cy PB n M n2 M2 kp fb ch co fo bb bk) (hB : isBk ad V cy k ρ) (hk : okR k ρ) (hn40 : n ≤ 40) (hn2 : n2 ≤ 40) (hPB : 100 ≤ PB) : Met l yX1_firstFalse [Cond.code yX1_firstFalse cX1_firstFalse 2 (some .int)] { frames := 4, cells := 0, slots := 0, locals := 96 } (WP [.ref (ad PB)] D cy z0 ad V) (vp_Si (fun r => r = ffI (flB ρ M n kp) k 0)) 0 0 (fun _ => False) := by
  refine met_of (by decide) (Nat.le_of_ble_eq_true rfl) (fun p e s m below meth c hx hb hr hml hown hlocks hnm hK hz hW ls hl => ?_)
  have hown : s.vm.findClass RX1 = some m.cls := hown
  have hl : lv_has ls 2 [(0, .ref (ad PB))] := hl
  have hk12 := hk.1
  obtain ⟨hC0, hCT, hCU, hC3, hC4⟩ := id hC
  obtain ⟨hT0, hT1, hTr⟩ := id hCT
  obtain ⟨hU0, hU1, hUr⟩ := id hCU
  obtain ⟨hB0, hB1, hBr⟩ := id hB
  refine lv_iconst (v := nI 0) hx hb dX1_firstFalse_0 (by decide) ?_
  refine lv_istore_n (lv' := [(1, .int (nI 0)), (0, .ref (ad PB))]) hx hb dX1_firstFalse_1 rfl hl (by decide) rfl (fun ls hl => ?_)
  refine wl (ι := Nat) (fun i => k - i) (fun i g => (i ≤ k ∧ ffI (flB ρ M n kp) k 0 = ffI (flB ρ M n kp) (k - i) i) ∧ ∃ ls, g = F0 m 2 ls [] ∧ lv_has ls 2 [(0, .ref (ad PB)), (1, .int (nI i))]) ?_ (0) _ ⟨⟨Nat.zero_le _, rfl⟩, ls, rfl, lv_sub hl [1, 0] rfl⟩
  intro i g hg ih
  obtain ⟨⟨hi, he⟩, ls, rfl, hl⟩ := hg
  refine lv_iload_n hx hb dX1_firstFalse_2 rfl (lv_at hl 1 rfl) ?_
  refine lv_aload_n hx hb dX1_firstFalse_3 rfl (lv_at hl 0 rfl) ?_
  refine g_X1_X1_book hx hb hown hK hW hC0 dX1_firstFalse_4 ?_
  refine g_X1_X3_size hx hb hown hK hW hB0 dX1_firstFalse_7 ?_
  refine lv_icmp_ge (tgt := 29) hx hb dX1_firstFalse_10 (by decide) (fun c10 => ?_) (fun c10 => ?_)
  · skip
    have c10 := nI_le' c10 (by omega) (by omega)
    refine lv_iconst (v := -1) hx hb dX1_firstFalse_29 (by decide) ?_
    exact ri hx hb hr hlocks dX1_firstFalse_30 (by rw [he, show k - i = 0 by omega]; rfl)
  · skip
    have c10 := nI_nle' c10 (by omega) (by omega)
    have hu : ffI (flB ρ M n kp) (k - i) i = (if flB ρ M n kp i = true then nI i else ffI (flB ρ M n kp) (k - (i + 1)) (i + 1)) := by rw [show k - i = (k - (i + 1)) + 1 by omega]; rfl
    refine lv_aload_n hx hb dX1_firstFalse_13 rfl (lv_at hl 0 rfl) ?_
    refine lv_iload_n hx hb dX1_firstFalse_14 rfl (lv_at hl 1 rfl) ?_
    refine vp_callSi (va_Run.run (va_runV (As := [.int (nI i)]) (rest := []) ⟨hx, hb, hml, hown, hK.1.use _⟩ (c_X1_isFalse l D cy z0 ad V PB n n2 k M M2 kp fb ch co fo bk bb ρ hC hB hk hn40 hn2 hPB i (by omega)) (k_X1_X1_isFalse hK.1 rfl rfl ⟨Nat.le_of_ble_eq_true rfl, Nat.le_of_ble_eq_true rfl⟩) (preV hK hz hW hC0 rfl) rfl rfl hl.1 rfl (lv_room (Nat.le_of_ble_eq_true rfl)) dX1_firstFalse_15 ⟨Nat.le_of_ble_eq_true rfl, Nat.le_of_ble_eq_true rfl⟩)) (fun r15 h15 => ?_)
    have h15 : r15 = b2i (flB ρ M n kp i) := h15
    subst h15
    refine lv_if_eq (tgt := 23) hx hb dX1_firstFalse_18 (by decide) (fun c18 => ?_) (fun c18 => ?_)
    · skip
      have c18 := b2i_0.mp c18
      refine lv_iinc (v := nI (i + 1)) (lv' := [(1, .int (nI (i + 1))), (0, .ref (ad PB))]) hx hb dX1_firstFalse_23 hl (k := 1) rfl (by rw [show Int32.ofInt 1 = nI 1 from by decide]; exact nI_add _ _) (by decide) rfl (fun ls hl => ?_)
      refine lv_goto (tgt := 2) hx hb dX1_firstFalse_26 (by decide) ?_
      exact ih (i + 1) _ ⟨⟨by omega, by rw [he, hu]; simp [c18]⟩, ls, rfl, lv_sub hl [1, 0] rfl⟩ (by omega)
    · skip
      have c18 := b2i_1.mp c18
      refine lv_iload_n hx hb dX1_firstFalse_21 rfl (lv_at hl 1 rfl) ?_
      exact ri hx hb hr hlocks dX1_firstFalse_22 (by rw [he, hu]; simp [c18])

set_option maxHeartbeats 4000000 in
set_option maxRecDepth 100000 in
theorem c_X1_scoreNow (l : Launch) (D : va_G) (cy : Nat → ClassId) (z0 : Nat) (ad : Nat → Nat) (V : Nat → Option va_E) (PB n n2 k : Nat) (M M2 : Nat → Nat → Int32) (kp : Nat → Int64) (fb : Nat → Bool) (ch co fo bk : Int32) (bb : Bool) (ρ : RuT) (hC : isC ad V cy PB n M n2 M2 kp fb ch co fo bb bk) (hB : isBk ad V cy k ρ) (hk : okR k ρ) (hn40 : n ≤ 40) (hn2 : n2 ≤ 40) (hPB : 100 ≤ PB) (lv : Int32) : Met l yX1_scoreNow [Cond.code yX1_scoreNow cX1_scoreNow 5 (some .long)] { frames := 0, cells := 0, slots := 0, locals := 0 } (WP [.ref (ad PB), .int (lv)] D cy z0 ad V) (vp_Sl (fun r => r = scL ρ kp lv k)) 0 0 (fun _ => False) := by
  refine met_of (by decide) (Nat.le_of_ble_eq_true rfl) (fun p e s m below meth c hx hb hr hml hown hlocks hnm hK hz hW ls hl => ?_)
  have hown : s.vm.findClass RX1 = some m.cls := hown
  have hl : lv_has ls 5 [(0, .ref (ad PB)), (1, .int (lv))] := hl
  have hk12 := hk.1
  obtain ⟨hC0, hCT, hCU, hC3, hC4⟩ := id hC
  obtain ⟨hT0, hT1, hTr⟩ := id hCT
  obtain ⟨hU0, hU1, hUr⟩ := id hCU
  obtain ⟨hB0, hB1, hBr⟩ := id hB
  refine lv_lconst (v := 0) hx hb dX1_scoreNow_0 (by decide) ?_
  refine lv_lstore_n (lv' := [(2, .long (0)), (0, .ref (ad PB)), (1, .int (lv))]) hx hb dX1_scoreNow_1 rfl hl (by decide) rfl (fun ls hl => ?_)
  refine lv_iconst (v := nI 0) hx hb dX1_scoreNow_2 (by decide) ?_
  refine lv_istore (lv' := [(4, .int (nI 0)), (2, .long (0)), (0, .ref (ad PB)), (1, .int (lv))]) hx hb dX1_scoreNow_3 hl (by decide) rfl (fun ls hl => ?_)
  refine wl (ι := Nat) (fun i => k - i) (fun i g => (i ≤ k) ∧ ∃ ls, g = F0 m 5 ls [] ∧ lv_has ls 5 [(0, .ref (ad PB)), (1, .int (lv)), (2, .long (scL ρ kp lv i)), (4, .int (nI i))]) ?_ (0) _ ⟨Nat.zero_le _, ls, rfl, lv_sub hl [2, 3, 1, 0] rfl⟩
  intro i g hg ih
  obtain ⟨hi, ls, rfl, hl⟩ := hg
  refine lv_iload hx hb dX1_scoreNow_5 (lv_at hl 3 rfl) ?_
  refine lv_aload_n hx hb dX1_scoreNow_7 rfl (lv_at hl 0 rfl) ?_
  refine g_X1_X1_book hx hb hown hK hW hC0 dX1_scoreNow_8 ?_
  refine g_X1_X3_size hx hb hown hK hW hB0 dX1_scoreNow_11 ?_
  refine lv_icmp_ge (tgt := 50) hx hb dX1_scoreNow_14 (by decide) (fun c14 => ?_) (fun c14 => ?_)
  · skip
    have c14 := nI_le' c14 (by omega) (by omega)
    refine lv_lload_n hx hb dX1_scoreNow_50 rfl (lv_at hl 2 rfl) ?_
    exact rl hx hb hr hlocks dX1_scoreNow_51 (by have e9 : i = k := (by omega); rw [e9])
  · skip
    have c14 := nI_nle' c14 (by omega) (by omega)
    have hBri := hBr i (by omega)
    have hki := hk.2 i (by omega)
    refine jl (pcj := 44) (st := []) (nL := 5) (lv := [(2, .long (scL ρ kp lv (i + 1))), (0, .ref (ad PB)), (1, .int (lv)), (4, .int (nI i))]) (fun K => ?_) (fun ls hl => ?_)
    · skip
      refine lv_aload_n hx hb dX1_scoreNow_17 rfl (lv_at hl 0 rfl) ?_
      refine g_X1_X1_book hx hb hown hK hW hC0 dX1_scoreNow_18 ?_
      refine g_X1_X3_rules hx hb hown hK hW hB0 dX1_scoreNow_21 ?_
      refine lv_iload hx hb dX1_scoreNow_24 (lv_at hl 3 rfl) ?_
      refine w_aald hx hb hK hW 6 rfl rfl hB1 (j := i) (rfl) (by omega) (by omega) dX1_scoreNow_26 ?_
      refine asv (y := .ref (ad (10 + i))) (elK (by omega)) ?_
      refine g_X1_X2_level hx hb hown hK hW hBri dX1_scoreNow_27 ?_
      refine lv_iload_n hx hb dX1_scoreNow_30 rfl (lv_at hl 1 rfl) ?_
      refine lv_icmp_ne (tgt := 44) hx hb dX1_scoreNow_31 (by decide) (fun c31 => ?_) (fun c31 => ?_)
      · skip
        have hq2 : (scL ρ kp lv i) = (scL ρ kp lv (i + 1)) := by simp [scL, c31]
        rw [hq2] at hl
        exact K ls (lv_sub hl [2, 0, 1, 3] rfl)
      · skip
        refine lv_lload_n hx hb dX1_scoreNow_34 rfl (lv_at hl 2 rfl) ?_
        refine lv_aload_n hx hb dX1_scoreNow_35 rfl (lv_at hl 0 rfl) ?_
        refine g_X1_X1_keptAt hx hb hown hK hW hC0 dX1_scoreNow_36 ?_
        refine lv_iload hx hb dX1_scoreNow_39 (lv_at hl 3 rfl) ?_
        refine w_lald hx hb hK hW hC3 (j := i) (rfl) (by omega) (by omega) dX1_scoreNow_41 ?_
        refine lv_ladd hx hb dX1_scoreNow_42 ?_
        refine lv_lstore_n (lv' := [(2, .long ((scL ρ kp lv i) + (kp i))), (0, .ref (ad PB)), (1, .int (lv)), (4, .int (nI i))]) hx hb dX1_scoreNow_43 rfl hl (by decide) rfl (fun ls hl => ?_)
        have hq2 : ((scL ρ kp lv i) + (kp i)) = (scL ρ kp lv (i + 1)) := by simp [scL, c31]
        rw [hq2] at hl
        exact K ls (lv_sub hl [0, 1, 2, 3] rfl)
    · skip
      refine lv_iinc (v := nI (i + 1)) (lv' := [(4, .int (nI (i + 1))), (2, .long (scL ρ kp lv (i + 1))), (0, .ref (ad PB)), (1, .int (lv))]) hx hb dX1_scoreNow_44 hl (k := 3) rfl (by rw [show Int32.ofInt 1 = nI 1 from by decide]; exact nI_add _ _) (by decide) rfl (fun ls hl => ?_)
      refine lv_goto (tgt := 5) hx hb dX1_scoreNow_47 (by decide) ?_
      exact ih (i + 1) _ ⟨by omega, ls, rfl, lv_sub hl [2, 3, 1, 0] rfl⟩ (by omega)

set_option maxHeartbeats 4000000 in
set_option maxRecDepth 100000 in
theorem c_X1_countForgetting (l : Launch) (D : va_G) (cy : Nat → ClassId) (z0 : Nat) (ad : Nat → Nat) (V : Nat → Option va_E) (PB n n2 k : Nat) (M M2 : Nat → Nat → Int32) (kp : Nat → Int64) (fb : Nat → Bool) (ch co fo bk : Int32) (bb : Bool) (ρ : RuT) (hC : isC ad V cy PB n M n2 M2 kp fb ch co fo bb bk) (hB : isBk ad V cy k ρ) (hk : okR k ρ) (hn40 : n ≤ 40) (hn2 : n2 ≤ 40) (hPB : 100 ≤ PB) : Met l yX1_countForgetting [Cond.code yX1_countForgetting cX1_countForgetting 3 (some .int)] { frames := 1, cells := 0, slots := 0, locals := 20 } (WP [.ref (ad PB)] D cy z0 ad V) (vp_Si (fun r => r = nI (cfT fb k))) 0 0 (fun _ => False) := by
  refine met_of (by decide) (Nat.le_of_ble_eq_true rfl) (fun p e s m below meth c hx hb hr hml hown hlocks hnm hK hz hW ls hl => ?_)
  have hown : s.vm.findClass RX1 = some m.cls := hown
  have hl : lv_has ls 3 [(0, .ref (ad PB))] := hl
  have hk12 := hk.1
  obtain ⟨hC0, hCT, hCU, hC3, hC4⟩ := id hC
  obtain ⟨hT0, hT1, hTr⟩ := id hCT
  obtain ⟨hU0, hU1, hUr⟩ := id hCU
  obtain ⟨hB0, hB1, hBr⟩ := id hB
  refine lv_iconst (v := nI 0) hx hb dX1_countForgetting_0 (by decide) ?_
  refine lv_istore_n (lv' := [(1, .int (nI 0)), (0, .ref (ad PB))]) hx hb dX1_countForgetting_1 rfl hl (by decide) rfl (fun ls hl => ?_)
  refine lv_iconst (v := nI 0) hx hb dX1_countForgetting_2 (by decide) ?_
  refine lv_istore_n (lv' := [(2, .int (nI 0)), (1, .int (nI 0)), (0, .ref (ad PB))]) hx hb dX1_countForgetting_3 rfl hl (by decide) rfl (fun ls hl => ?_)
  refine wl (ι := Nat) (fun i => k - i) (fun i g => (i ≤ k) ∧ ∃ ls, g = F0 m 4 ls [] ∧ lv_has ls 3 [(0, .ref (ad PB)), (1, .int (nI (cfT fb i))), (2, .int (nI i))]) ?_ (0) _ ⟨Nat.zero_le _, ls, rfl, lv_sub hl [2, 1, 0] rfl⟩
  intro i g hg ih
  obtain ⟨hi, ls, rfl, hl⟩ := hg
  refine lv_iload_n hx hb dX1_countForgetting_4 rfl (lv_at hl 2 rfl) ?_
  refine lv_aload_n hx hb dX1_countForgetting_5 rfl (lv_at hl 0 rfl) ?_
  refine g_X1_X1_book hx hb hown hK hW hC0 dX1_countForgetting_6 ?_
  refine g_X1_X3_size hx hb hown hK hW hB0 dX1_countForgetting_9 ?_
  refine lv_icmp_ge (tgt := 33) hx hb dX1_countForgetting_12 (by decide) (fun c12 => ?_) (fun c12 => ?_)
  · skip
    have c12 := nI_le' c12 (by omega) (by omega)
    refine lv_iload_n hx hb dX1_countForgetting_33 rfl (lv_at hl 1 rfl) ?_
    exact ri hx hb hr hlocks dX1_countForgetting_34 (by have e9 : i = k := (by omega); rw [e9])
  · skip
    have c12 := nI_nle' c12 (by omega) (by omega)
    refine lv_iload_n hx hb dX1_countForgetting_15 rfl (lv_at hl 1 rfl) ?_
    refine lv_aload_n hx hb dX1_countForgetting_16 rfl (lv_at hl 0 rfl) ?_
    refine g_X1_X1_forgets hx hb hown hK hW hC0 dX1_countForgetting_17 ?_
    refine lv_iload_n hx hb dX1_countForgetting_20 rfl (lv_at hl 2 rfl) ?_
    refine w_zald hx hb hK hW hC4 (j := i) (rfl) (by omega) (by omega) dX1_countForgetting_21 ?_
    refine vp_callSi (va_Run.run (va_runSN (As := [.int (b2i (fb i))]) (rest := [.int (nI (cfT fb i))]) ⟨hx, hb, hml, hown, hK.1.use _⟩ (c_X6_oneIf l D cy z0 ad V (fb i)) (k_X1_X6_oneIf hK.1 rfl rfl ⟨Nat.le_of_ble_eq_true rfl, Nat.le_of_ble_eq_true rfl⟩) (preS hK hz hW) rfl rfl hl.1 rfl (lv_room (Nat.le_of_ble_eq_true rfl)) dX1_countForgetting_22 ⟨Nat.le_of_ble_eq_true rfl, Nat.le_of_ble_eq_true rfl⟩)) (fun r22 h22 => ?_)
    have h22 : r22 = b2i (fb i) := h22
    subst h22
    refine lv_iadd hx hb dX1_countForgetting_25 ?_
    refine asi (y := nI (cfT fb (i + 1))) (by simp only [cfT]; rw [← nI_add]; congr 1; by_cases h1 : fb i = true <;> simp [h1, b2i, nI]) ?_
    refine lv_istore_n (lv' := [(1, .int (nI (cfT fb (i + 1)))), (0, .ref (ad PB)), (2, .int (nI i))]) hx hb dX1_countForgetting_26 rfl hl (by decide) rfl (fun ls hl => ?_)
    refine lv_iinc (v := nI (i + 1)) (lv' := [(2, .int (nI (i + 1))), (1, .int (nI (cfT fb (i + 1)))), (0, .ref (ad PB))]) hx hb dX1_countForgetting_27 hl (k := 2) rfl (by rw [show Int32.ofInt 1 = nI 1 from by decide]; exact nI_add _ _) (by decide) rfl (fun ls hl => ?_)
    refine lv_goto (tgt := 4) hx hb dX1_countForgetting_30 (by decide) ?_
    exact ih (i + 1) _ ⟨by omega, ls, rfl, lv_sub hl [2, 1, 0] rfl⟩ (by omega)

set_option maxHeartbeats 4000000 in
set_option maxRecDepth 100000 in
theorem c_X1_gainUnlessForgotten (l : Launch) (D : va_G) (cy : Nat → ClassId) (z0 : Nat) (ad : Nat → Nat) (V : Nat → Option va_E) (PB n n2 k : Nat) (M M2 : Nat → Nat → Int32) (kp : Nat → Int64) (fb : Nat → Bool) (ch co fo bk : Int32) (bb : Bool) (ρ : RuT) (hC : isC ad V cy PB n M n2 M2 kp fb ch co fo bb bk) (hB : isBk ad V cy k ρ) (hk : okR k ρ) (hn40 : n ≤ 40) (hn2 : n2 ≤ 40) (hPB : 100 ≤ PB) (rr : Nat) (hrr : rr < k) : Met l yX1_gainUnlessForgotten [Cond.code yX1_gainUnlessForgotten cX1_gainUnlessForgotten 3 (some .long)] { frames := 4, cells := 0, slots := 0, locals := 96 } (WP [.ref (ad PB), .int (nI rr)] D cy z0 ad V) (vp_Sl (fun r => r = gnL ρ rr fb M n M2 n2)) 0 0 (fun _ => False) := by
  refine met_of (by decide) (Nat.le_of_ble_eq_true rfl) (fun p e s m below meth c hx hb hr hml hown hlocks hnm hK hz hW ls hl => ?_)
  have hown : s.vm.findClass RX1 = some m.cls := hown
  have hl : lv_has ls 3 [(0, .ref (ad PB)), (1, .int (nI rr))] := hl
  have hk12 := hk.1
  obtain ⟨hC0, hCT, hCU, hC3, hC4⟩ := id hC
  obtain ⟨hT0, hT1, hTr⟩ := id hCT
  obtain ⟨hU0, hU1, hUr⟩ := id hCU
  obtain ⟨hB0, hB1, hBr⟩ := id hB
  have hBrrr := hBr rr (by omega)
  have hkrr := hk.2 rr (by omega)
  have hct : ctR ρ rr M M2 n ≤ n := ctT_le _ _ _ _ _ _
  refine jl (pcj := 37) (st := [.int (b2i (decide (fb rr = true ∨ ctR ρ rr M M2 n = 0)))]) (nL := 3) (lv := [(0, .ref (ad PB)), (1, .int (nI rr))]) (fun K => ?_) (fun ls hl => ?_)
  · skip
    refine lv_aload_n hx hb dX1_gainUnlessForgotten_0 rfl (lv_at hl 0 rfl) ?_
    refine g_X1_X1_forgets hx hb hown hK hW hC0 dX1_gainUnlessForgotten_1 ?_
    refine lv_iload_n hx hb dX1_gainUnlessForgotten_4 rfl (lv_at hl 1 rfl) ?_
    refine w_zald hx hb hK hW hC4 (j := rr) (rfl) (by omega) (by omega) dX1_gainUnlessForgotten_5 ?_
    refine lv_if_ne (tgt := 32) hx hb dX1_gainUnlessForgotten_6 (by decide) (fun c6 => ?_) (fun c6 => ?_)
    · skip
      have c6 := b2i_1.mp c6
      refine lv_iconst (v := nI 1) hx hb dX1_gainUnlessForgotten_32 (by decide) ?_
      refine lv_goto (tgt := 37) hx hb dX1_gainUnlessForgotten_33 (by decide) ?_
      refine asi (y := b2i (decide (fb rr = true ∨ ctR ρ rr M M2 n = 0))) (by first | (simp [c6, b2i, nI]; done) | (simp [c6, c29, b2i, nI]; done)) ?_
      exact K ls (lv_sub hl [0, 1] rfl)
    · skip
      have c6 := b2i_0.mp c6
      refine lv_aload_n hx hb dX1_gainUnlessForgotten_9 rfl (lv_at hl 0 rfl) ?_
      refine g_X1_X1_book hx hb hown hK hW hC0 dX1_gainUnlessForgotten_10 ?_
      refine g_X1_X3_rules hx hb hown hK hW hB0 dX1_gainUnlessForgotten_13 ?_
      refine lv_iload_n hx hb dX1_gainUnlessForgotten_16 rfl (lv_at hl 1 rfl) ?_
      refine w_aald hx hb hK hW 6 rfl rfl hB1 (j := rr) (rfl) (by omega) (by omega) dX1_gainUnlessForgotten_17 ?_
      refine asv (y := .ref (ad (10 + rr))) (elK (by omega)) ?_
      refine lv_aload_n hx hb dX1_gainUnlessForgotten_18 rfl (lv_at hl 0 rfl) ?_
      refine g_X1_X1_now hx hb hown hK hW hC0 dX1_gainUnlessForgotten_19 ?_
      refine lv_aload_n hx hb dX1_gainUnlessForgotten_22 rfl (lv_at hl 0 rfl) ?_
      refine g_X1_X1_behind hx hb hown hK hW hC0 dX1_gainUnlessForgotten_23 ?_
      refine vp_callSi (va_Run.run (va_runV (As := [.ref (ad (PB + 1)), .ref (ad (PB + 7))]) (rest := []) ⟨hx, hb, hml, hown, hK.1.use _⟩ (c_X2_countTouched l D cy z0 ad V (10 + rr) (ρ rr).1 (ρ rr).2.1 (ρ rr).2.2.1 (ρ rr).2.2.2.1 (ρ rr).2.2.2.2 hBrrr hkrr.1 hkrr.2 (PB + 1) n M hCT (PB + 7) n2 M2 hCU (by omega)) (k_X1_X2_countTouched hK.1 rfl rfl ⟨Nat.le_of_ble_eq_true rfl, Nat.le_of_ble_eq_true rfl⟩) (preV hK hz hW hBrrr rfl) rfl rfl hl.1 rfl (lv_room (Nat.le_of_ble_eq_true rfl)) dX1_gainUnlessForgotten_26 ⟨Nat.le_of_ble_eq_true rfl, Nat.le_of_ble_eq_true rfl⟩)) (fun r26 h26 => ?_)
      have h26 : r26 = nI (ctR ρ rr M M2 n) := h26
      subst h26
      refine lv_if_ne (tgt := 36) hx hb dX1_gainUnlessForgotten_29 (by decide) (fun c29 => ?_) (fun c29 => ?_)
      · skip
        have c29 := nI_ne' (b := 0) c29 (by omega) (by omega)
        refine lv_iconst (v := nI 0) hx hb dX1_gainUnlessForgotten_36 (by decide) ?_
        refine asi (y := b2i (decide (fb rr = true ∨ ctR ρ rr M M2 n = 0))) (by first | (simp [c6, b2i, nI]; done) | (simp [c6, c29, b2i, nI]; done)) ?_
        exact K ls (lv_sub hl [0, 1] rfl)
      · skip
        have c29 := nI_eq' (b := 0) c29 (by omega) (by omega)
        refine lv_iconst (v := nI 1) hx hb dX1_gainUnlessForgotten_32 (by decide) ?_
        refine lv_goto (tgt := 37) hx hb dX1_gainUnlessForgotten_33 (by decide) ?_
        refine asi (y := b2i (decide (fb rr = true ∨ ctR ρ rr M M2 n = 0))) (by first | (simp [c6, b2i, nI]; done) | (simp [c6, c29, b2i, nI]; done)) ?_
        exact K ls (lv_sub hl [0, 1] rfl)
  · skip
    refine lv_istore_n (lv' := [(2, .int (b2i (decide (fb rr = true ∨ ctR ρ rr M M2 n = 0)))), (0, .ref (ad PB)), (1, .int (nI rr))]) hx hb dX1_gainUnlessForgotten_37 rfl hl (by decide) rfl (fun ls hl => ?_)
    refine lv_iload_n hx hb dX1_gainUnlessForgotten_38 rfl (lv_at hl 0 rfl) ?_
    refine lv_if_eq (tgt := 46) hx hb dX1_gainUnlessForgotten_39 (by decide) (fun c39 => ?_) (fun c39 => ?_)
    · skip
      have c39 := b2i_0.mp c39
      have c39 : ¬ (fb rr = true ∨ ctR ρ rr M M2 n = 0) := by simpa using c39
      refine lv_aload_n hx hb dX1_gainUnlessForgotten_46 rfl (lv_at hl 1 rfl) ?_
      refine lv_iload_n hx hb dX1_gainUnlessForgotten_47 rfl (lv_at hl 2 rfl) ?_
      refine vp_callSl (va_Run.run (va_runV (As := [.int (nI rr)]) (rest := []) ⟨hx, hb, hml, hown, hK.1.use _⟩ (c_X1_gain l D cy z0 ad V PB n n2 k M M2 kp fb ch co fo bk bb ρ hC hB hk hn40 hn2 hPB rr hrr) (k_X1_X1_gain hK.1 rfl rfl ⟨Nat.le_of_ble_eq_true rfl, Nat.le_of_ble_eq_true rfl⟩) (preV hK hz hW hC0 rfl) rfl rfl hl.1 rfl (lv_room (Nat.le_of_ble_eq_true rfl)) dX1_gainUnlessForgotten_48 ⟨Nat.le_of_ble_eq_true rfl, Nat.le_of_ble_eq_true rfl⟩)) (fun r48 h48 => ?_)
      have h48 : r48 = wthR ρ rr M2 n2 - wthR ρ rr M n := h48
      subst h48
      exact rl hx hb hr hlocks dX1_gainUnlessForgotten_51 (by unfold gnL; first | rw [if_neg c39] | rw [if_pos c39])
    · skip
      have c39 := b2i_1.mp c39
      have c39 : fb rr = true ∨ ctR ρ rr M M2 n = 0 := by simpa using c39
      refine lv_lconst (v := 0) hx hb dX1_gainUnlessForgotten_42 (by decide) ?_
      refine lv_goto (tgt := 51) hx hb dX1_gainUnlessForgotten_43 (by decide) ?_
      exact rl hx hb hr hlocks dX1_gainUnlessForgotten_51 (by unfold gnL; first | rw [if_neg c39] | rw [if_pos c39])

set_option maxHeartbeats 4000000 in
set_option maxRecDepth 100000 in
theorem c_X1_undoable (l : Launch) (D : va_G) (cy : Nat → ClassId) (z0 : Nat) (ad : Nat → Nat) (V : Nat → Option va_E) (PB n n2 k : Nat) (M M2 : Nat → Nat → Int32) (kp : Nat → Int64) (fb : Nat → Bool) (ch co fo bk : Int32) (bb : Bool) (ρ : RuT) (hC : isC ad V cy PB n M n2 M2 kp fb ch co fo bb bk) (hB : isBk ad V cy k ρ) (hk : okR k ρ) (hn40 : n ≤ 40) (hn2 : n2 ≤ 40) (hPB : 100 ≤ PB) (ho hm hv : Nat → Int32) (hs : Nat → Nat → Int64) (nx kn : Nat) (hH : isH ad V cy PB ho hm hv hs nx kn) : Met l yX1_undoable [Cond.code yX1_undoable cX1_undoable 1 (some .int)] { frames := 0, cells := 0, slots := 0, locals := 0 } (WP [.ref (ad PB)] D cy z0 ad V) (vp_Si (fun r => r = if bb = true then bk else nI kn)) 0 0 (fun _ => False) := by
  refine met_of (by decide) (Nat.le_of_ble_eq_true rfl) (fun p e s m below meth c hx hb hr hml hown hlocks hnm hK hz hW ls hl => ?_)
  have hown : s.vm.findClass RX1 = some m.cls := hown
  have hl : lv_has ls 1 [(0, .ref (ad PB))] := hl
  have hk12 := hk.1
  obtain ⟨hC0, hCT, hCU, hC3, hC4⟩ := id hC
  obtain ⟨hT0, hT1, hTr⟩ := id hCT
  obtain ⟨hU0, hU1, hUr⟩ := id hCU
  obtain ⟨hB0, hB1, hBr⟩ := id hB
  obtain ⟨hH0, hH1, hH2, hH3, hH4, hHr⟩ := id hH
  refine lv_aload_n hx hb dX1_undoable_0 rfl (lv_at hl 0 rfl) ?_
  refine g_X1_X1_batchBegun hx hb hown hK hW hC0 dX1_undoable_1 ?_
  refine lv_if_eq (tgt := 14) hx hb dX1_undoable_4 (by decide) (fun c4 => ?_) (fun c4 => ?_)
  · skip
    have c4 := b2i_0.mp c4
    refine lv_aload_n hx hb dX1_undoable_14 rfl (lv_at hl 0 rfl) ?_
    refine g_X1_X1_history hx hb hown hK hW hC0 dX1_undoable_15 ?_
    refine g_X1_X0_known hx hb hown hK hW hH0 dX1_undoable_18 ?_
    exact ri hx hb hr hlocks dX1_undoable_21 (by simp [c4])
  · skip
    have c4 := b2i_1.mp c4
    refine lv_aload_n hx hb dX1_undoable_7 rfl (lv_at hl 0 rfl) ?_
    refine g_X1_X1_batchKnown hx hb hown hK hW hC0 dX1_undoable_8 ?_
    refine lv_goto (tgt := 21) hx hb dX1_undoable_11 (by decide) ?_
    exact ri hx hb hr hlocks dX1_undoable_21 (by simp [c4])

set_option maxHeartbeats 4000000 in
set_option maxRecDepth 100000 in
theorem c_X1_figure (l : Launch) (D : va_G) (cy : Nat → ClassId) (z0 : Nat) (ad : Nat → Nat) (V : Nat → Option va_E) (PB n n2 k : Nat) (M M2 : Nat → Nat → Int32) (kp : Nat → Int64) (fb : Nat → Bool) (ch co fo bk : Int32) (bb : Bool) (ρ : RuT) (hC : isC ad V cy PB n M n2 M2 kp fb ch co fo bb bk) (hB : isBk ad V cy k ρ) (hk : okR k ρ) (hn40 : n ≤ 40) (hn2 : n2 ≤ 40) (hPB : 100 ≤ PB) (ho hm hv : Nat → Int32) (hs : Nat → Nat → Int64) (nx kn : Nat) (hH : isH ad V cy PB ho hm hv hs nx kn) (wh : Int32) : Met l yX1_figure [Cond.code yX1_figure cX1_figure 2 (some .int)] { frames := 2, cells := 0, slots := 0, locals := 42 } (WP [.ref (ad PB), .int (wh)] D cy z0 ad V) (vp_Si (fun r => r = fgI k fb ch co fo bb kn wh)) 0 0 (fun _ => False) := by
  refine met_of (by decide) (Nat.le_of_ble_eq_true rfl) (fun p e s m below meth c hx hb hr hml hown hlocks hnm hK hz hW ls hl => ?_)
  have hown : s.vm.findClass RX1 = some m.cls := hown
  have hl : lv_has ls 2 [(0, .ref (ad PB)), (1, .int (wh))] := hl
  have hk12 := hk.1
  obtain ⟨hC0, hCT, hCU, hC3, hC4⟩ := id hC
  obtain ⟨hT0, hT1, hTr⟩ := id hCT
  obtain ⟨hU0, hU1, hUr⟩ := id hCU
  obtain ⟨hB0, hB1, hBr⟩ := id hB
  obtain ⟨hH0, hH1, hH2, hH3, hH4, hHr⟩ := id hH
  refine lv_iload_n hx hb dX1_figure_0 rfl (lv_at hl 1 rfl) ?_
  by_cases hq0 : wh = nI 0
  · skip
    refine asi (y := nI 0) (by rw [hq0]) ?_
    refine lv_tableIn (off := 39) (tgt := 40) hx hb dX1_figure_1 (by decide) (by decide) (by decide) (by decide) ?_
    refine lv_aload_n hx hb dX1_figure_40 rfl (lv_at hl 0 rfl) ?_
    refine g_X1_X1_changes hx hb hown hK hW hC0 dX1_figure_41 ?_
    exact ri hx hb hr hlocks dX1_figure_44 (by unfold fgI; rw [if_pos hq0])
  · skip
    by_cases hq1 : wh = nI 1
    · skip
      refine asi (y := nI 1) (by rw [hq1]) ?_
      refine lv_tableIn (off := 44) (tgt := 45) hx hb dX1_figure_1 (by decide) (by decide) (by decide) (by decide) ?_
      refine lv_aload_n hx hb dX1_figure_45 rfl (lv_at hl 0 rfl) ?_
      refine g_X1_X1_history hx hb hown hK hW hC0 dX1_figure_46 ?_
      refine g_X1_X0_known hx hb hown hK hW hH0 dX1_figure_49 ?_
      exact ri hx hb hr hlocks dX1_figure_52 (by unfold fgI; rw [if_neg hq0, if_pos hq1])
    · skip
      by_cases hq2 : wh = nI 2
      · skip
        refine asi (y := nI 2) (by rw [hq2]) ?_
        refine lv_tableIn (off := 52) (tgt := 53) hx hb dX1_figure_1 (by decide) (by decide) (by decide) (by decide) ?_
        refine lv_aload_n hx hb dX1_figure_53 rfl (lv_at hl 0 rfl) ?_
        refine g_X1_X1_cost hx hb hown hK hW hC0 dX1_figure_54 ?_
        exact ri hx hb hr hlocks dX1_figure_57 (by unfold fgI; rw [if_neg hq0, if_neg hq1, if_pos hq2])
      · skip
        by_cases hq3 : wh = nI 3
        · skip
          refine asi (y := nI 3) (by rw [hq3]) ?_
          refine lv_tableIn (off := 57) (tgt := 58) hx hb dX1_figure_1 (by decide) (by decide) (by decide) (by decide) ?_
          refine lv_aload_n hx hb dX1_figure_58 rfl (lv_at hl 0 rfl) ?_
          refine g_X1_X1_foundFalse hx hb hown hK hW hC0 dX1_figure_59 ?_
          exact ri hx hb hr hlocks dX1_figure_62 (by unfold fgI; rw [if_neg hq0, if_neg hq1, if_neg hq2, if_pos hq3])
        · skip
          by_cases hq4 : wh = nI 4
          · skip
            refine asi (y := nI 4) (by rw [hq4]) ?_
            refine lv_tableIn (off := 62) (tgt := 63) hx hb dX1_figure_1 (by decide) (by decide) (by decide) (by decide) ?_
            refine lv_aload_n hx hb dX1_figure_63 rfl (lv_at hl 0 rfl) ?_
            refine g_X1_X1_batchBegun hx hb hown hK hW hC0 dX1_figure_64 ?_
            refine vp_callSi (va_Run.run (va_runSN (As := [.int (b2i bb)]) (rest := []) ⟨hx, hb, hml, hown, hK.1.use _⟩ (c_X6_oneIf l D cy z0 ad V bb) (k_X1_X6_oneIf hK.1 rfl rfl ⟨Nat.le_of_ble_eq_true rfl, Nat.le_of_ble_eq_true rfl⟩) (preS hK hz hW) rfl rfl hl.1 rfl (lv_room (Nat.le_of_ble_eq_true rfl)) dX1_figure_67 ⟨Nat.le_of_ble_eq_true rfl, Nat.le_of_ble_eq_true rfl⟩)) (fun r67 h67 => ?_)
            have h67 : r67 = b2i bb := h67
            subst h67
            exact ri hx hb hr hlocks dX1_figure_70 (by unfold fgI; rw [if_neg hq0, if_neg hq1, if_neg hq2, if_neg hq3, if_pos hq4])
          · skip
            by_cases hq5 : wh = nI 5
            · skip
              refine asi (y := nI 5) (by rw [hq5]) ?_
              refine lv_tableIn (off := 70) (tgt := 71) hx hb dX1_figure_1 (by decide) (by decide) (by decide) (by decide) ?_
              refine lv_aload_n hx hb dX1_figure_71 rfl (lv_at hl 0 rfl) ?_
              refine vp_callSi (va_Run.run (va_runV (As := []) (rest := []) ⟨hx, hb, hml, hown, hK.1.use _⟩ (c_X1_countForgetting l D cy z0 ad V PB n n2 k M M2 kp fb ch co fo bk bb ρ hC hB hk hn40 hn2 hPB) (k_X1_X1_countForgetting hK.1 rfl rfl ⟨Nat.le_of_ble_eq_true rfl, Nat.le_of_ble_eq_true rfl⟩) (preV hK hz hW hC0 rfl) rfl rfl hl.1 rfl (lv_room (Nat.le_of_ble_eq_true rfl)) dX1_figure_72 ⟨Nat.le_of_ble_eq_true rfl, Nat.le_of_ble_eq_true rfl⟩)) (fun r72 h72 => ?_)
              have h72 : r72 = nI (cfT fb k) := h72
              subst h72
              exact ri hx hb hr hlocks dX1_figure_75 (by unfold fgI; rw [if_neg hq0, if_neg hq1, if_neg hq2, if_neg hq3, if_neg hq4, if_pos hq5])
            · skip
              refine lv_tableOut (tgt := 76) hx hb dX1_figure_1 (swO 5 (fun k hk => by have hk3 : k = 0 ∨ k = 1 ∨ k = 2 ∨ k = 3 ∨ k = 4 ∨ k = 5 := (by omega); rcases hk3 with rfl | rfl | rfl | rfl | rfl | rfl <;> assumption)) (by decide) ?_
              refine lv_iconst (v := -1) hx hb dX1_figure_76 (by decide) ?_
              exact ri hx hb hr hlocks dX1_figure_77 (by unfold fgI; rw [if_neg hq0, if_neg hq1, if_neg hq2, if_neg hq3, if_neg hq4, if_neg hq5])
end
section
set_option maxHeartbeats 4000000 in
set_option maxRecDepth 100000 in
theorem c_X0_push (l : Launch) (D : va_G) (cy : Nat → ClassId) (z0 : Nat) (ad : Nat → Nat) (V : Nat → Option va_E) (PB : Nat) (ho hm hv : Nat → Int32) (hs : Nat → Nat → Int64) (nx kn : Nat) (hH : isH ad V cy PB ho hm hv hs nx kn) (kp : Nat → Int64) (hC3 : V (PB + 13) = some (.inl (cy 1, 12, .inr (.inl kp)))) (hnx : nx < 60) (hkn : kn ≤ 60) (o mm v : Int32) : Met l yX0_push [Cond.code yX0_push cX0_push 5 none] { frames := 1, cells := 0, slots := 0, locals := 60 } (WP [.ref (ad (PB + 15)), .int (o), .int (mm), .int (v), .ref (ad (PB + 13))] D cy z0 ad V) (va_Qv (fun u => u.1 = ad ∧ isH ad u.2 cy PB (upd ho nx o) (upd hm nx mm) (upd hv nx v) (hsU hs nx kp) (nxU nx) (knU kn) ∧ ∀ L, (L < PB + 15 ∨ PB + 80 ≤ L) → u.2 L = V L) (WB D z0) (AA z0)) 0 0 (AA z0) := by
  refine met_of (by decide) (Nat.le_of_ble_eq_true rfl) (fun p e s m below meth c hx hb hr hml hown hlocks hnm hK hz hW ls hl => ?_)
  have hown : s.vm.findClass RX0 = some m.cls := hown
  have hl : lv_has ls 5 [(0, .ref (ad (PB + 15))), (1, .int (o)), (2, .int (mm)), (3, .int (v)), (4, .ref (ad (PB + 13)))] := hl
  have hS : va_S (AA z0) s.heap s.heap [] := va_S.rf
  obtain ⟨hH0, hH1, hH2, hH3, hH4, hHr⟩ := id hH
  have hHx := hHr nx hnx
  refine lv_aload_n hx hb dX0_push_0 rfl (lv_at hl 0 rfl) ?_
  refine g_X0_X0_objects hx hb hown hK hW hH0 dX0_push_1 ?_
  refine lv_aload_n hx hb dX0_push_4 rfl (lv_at hl 0 rfl) ?_
  refine g_X0_X0_next hx hb hown hK hW hH0 dX0_push_5 ?_
  refine lv_iload_n hx hb dX0_push_8 rfl (lv_at hl 1 rfl) ?_
  refine w_iast hx hb hK hW hS hH1 (j := nx) (rfl) (by omega) (by omega) dX0_push_9 (fun H locs hW hS => ?_)
  obtain ⟨V1, eV1⟩ : ∃ x, x = va_up V (PB + 16) (some (.inl (cy 0, 60, .inl (upd ho nx o)))) := ⟨_, rfl⟩
  rw [← eV1] at hW
  have hH0 : V1 (PB + 15) = some (.inr (0, [.ref (ad (PB + 16)), .ref (ad (PB + 17)), .ref (ad (PB + 18)), .ref (ad (PB + 19)), .int (nI nx), .int (nI kn)])) := by rw [eV1, va_up_ne _ _ (by omega)]; exact hH0
  have hH2 : V1 (PB + 17) = some (.inl (cy 0, 60, .inl hm)) := by rw [eV1, va_up_ne _ _ (by omega)]; exact hH2
  have hH3 : V1 (PB + 18) = some (.inl (cy 0, 60, .inl hv)) := by rw [eV1, va_up_ne _ _ (by omega)]; exact hH3
  have hH4 : V1 (PB + 19) = some (.inl (cy 4, 60, .inr (.inr (.inr (.inr (fun i => if i < 60 then some (ad (PB + 20 + i)) else none)))))) := by rw [eV1, va_up_ne _ _ (by omega)]; exact hH4
  have hC3 : V1 (PB + 13) = some (.inl (cy 1, 12, .inr (.inl kp))) := by rw [eV1, va_up_ne _ _ (by omega)]; exact hC3
  have hHx : V1 (PB + 20 + nx) = some (.inl (cy 1, 12, .inr (.inl (hs nx)))) := by rw [eV1, va_up_ne _ _ (by omega)]; exact hHx
  have hH1 : V1 (PB + 16) = some (.inl (cy 0, 60, .inl (upd ho nx o))) := by rw [eV1, va_up_self]
  refine lv_aload_n hx hb dX0_push_10 rfl (lv_at hl 0 rfl) ?_
  refine g_X0_X0_members hx hb hown hK hW hH0 dX0_push_11 ?_
  refine lv_aload_n hx hb dX0_push_14 rfl (lv_at hl 0 rfl) ?_
  refine g_X0_X0_next hx hb hown hK hW hH0 dX0_push_15 ?_
  refine lv_iload_n hx hb dX0_push_18 rfl (lv_at hl 2 rfl) ?_
  refine w_iast hx hb hK hW hS hH2 (j := nx) (rfl) (by omega) (by omega) dX0_push_19 (fun H locs hW hS => ?_)
  obtain ⟨V2, eV2⟩ : ∃ x, x = va_up V1 (PB + 17) (some (.inl (cy 0, 60, .inl (upd hm nx mm)))) := ⟨_, rfl⟩
  rw [← eV2] at hW
  have hH0 : V2 (PB + 15) = some (.inr (0, [.ref (ad (PB + 16)), .ref (ad (PB + 17)), .ref (ad (PB + 18)), .ref (ad (PB + 19)), .int (nI nx), .int (nI kn)])) := by rw [eV2, va_up_ne _ _ (by omega)]; exact hH0
  have hH3 : V2 (PB + 18) = some (.inl (cy 0, 60, .inl hv)) := by rw [eV2, va_up_ne _ _ (by omega)]; exact hH3
  have hH4 : V2 (PB + 19) = some (.inl (cy 4, 60, .inr (.inr (.inr (.inr (fun i => if i < 60 then some (ad (PB + 20 + i)) else none)))))) := by rw [eV2, va_up_ne _ _ (by omega)]; exact hH4
  have hC3 : V2 (PB + 13) = some (.inl (cy 1, 12, .inr (.inl kp))) := by rw [eV2, va_up_ne _ _ (by omega)]; exact hC3
  have hHx : V2 (PB + 20 + nx) = some (.inl (cy 1, 12, .inr (.inl (hs nx)))) := by rw [eV2, va_up_ne _ _ (by omega)]; exact hHx
  have hH1 : V2 (PB + 16) = some (.inl (cy 0, 60, .inl (upd ho nx o))) := by rw [eV2, va_up_ne _ _ (by omega)]; exact hH1
  have hH2 : V2 (PB + 17) = some (.inl (cy 0, 60, .inl (upd hm nx mm))) := by rw [eV2, va_up_self]
  refine lv_aload_n hx hb dX0_push_20 rfl (lv_at hl 0 rfl) ?_
  refine g_X0_X0_numbers hx hb hown hK hW hH0 dX0_push_21 ?_
  refine lv_aload_n hx hb dX0_push_24 rfl (lv_at hl 0 rfl) ?_
  refine g_X0_X0_next hx hb hown hK hW hH0 dX0_push_25 ?_
  refine lv_iload_n hx hb dX0_push_28 rfl (lv_at hl 3 rfl) ?_
  refine w_iast hx hb hK hW hS hH3 (j := nx) (rfl) (by omega) (by omega) dX0_push_29 (fun H locs hW hS => ?_)
  obtain ⟨V3, eV3⟩ : ∃ x, x = va_up V2 (PB + 18) (some (.inl (cy 0, 60, .inl (upd hv nx v)))) := ⟨_, rfl⟩
  rw [← eV3] at hW
  have hH0 : V3 (PB + 15) = some (.inr (0, [.ref (ad (PB + 16)), .ref (ad (PB + 17)), .ref (ad (PB + 18)), .ref (ad (PB + 19)), .int (nI nx), .int (nI kn)])) := by rw [eV3, va_up_ne _ _ (by omega)]; exact hH0
  have hH4 : V3 (PB + 19) = some (.inl (cy 4, 60, .inr (.inr (.inr (.inr (fun i => if i < 60 then some (ad (PB + 20 + i)) else none)))))) := by rw [eV3, va_up_ne _ _ (by omega)]; exact hH4
  have hC3 : V3 (PB + 13) = some (.inl (cy 1, 12, .inr (.inl kp))) := by rw [eV3, va_up_ne _ _ (by omega)]; exact hC3
  have hHx : V3 (PB + 20 + nx) = some (.inl (cy 1, 12, .inr (.inl (hs nx)))) := by rw [eV3, va_up_ne _ _ (by omega)]; exact hHx
  have hH1 : V3 (PB + 16) = some (.inl (cy 0, 60, .inl (upd ho nx o))) := by rw [eV3, va_up_ne _ _ (by omega)]; exact hH1
  have hH2 : V3 (PB + 17) = some (.inl (cy 0, 60, .inl (upd hm nx mm))) := by rw [eV3, va_up_ne _ _ (by omega)]; exact hH2
  have hH3 : V3 (PB + 18) = some (.inl (cy 0, 60, .inl (upd hv nx v))) := by rw [eV3, va_up_self]
  refine lv_aload hx hb dX0_push_30 (lv_at hl 4 rfl) ?_
  refine lv_iconst (v := nI 0) hx hb dX0_push_32 (by decide) ?_
  refine lv_aload_n hx hb dX0_push_33 rfl (lv_at hl 0 rfl) ?_
  refine g_X0_X0_keptAt hx hb hown hK hW hH0 dX0_push_34 ?_
  refine lv_aload_n hx hb dX0_push_37 rfl (lv_at hl 0 rfl) ?_
  refine g_X0_X0_next hx hb hown hK hW hH0 dX0_push_38 ?_
  refine w_aald hx hb hK hW 4 rfl rfl hH4 (j := nx) (rfl) (by omega) (by omega) dX0_push_41 ?_
  refine asv (y := .ref (ad (PB + 20 + nx))) (elK (by omega)) ?_
  refine lv_iconst (v := nI 0) hx hb dX0_push_42 (by decide) ?_
  refine lv_bipush (v := nI 12) hx hb dX0_push_43 (by decide) ?_
  refine w_copyl hx hb (hml.trans hl.1.symm) hown k_X0_arraycopy tw_181 tw_180 tw_7 hK hW hS hC3 hHx (a := 0) (b := 0) (k := 12) rfl rfl rfl (by omega) (by omega) (by omega) (by omega) (Nat.le_of_ble_eq_true rfl) (Nat.le_of_ble_eq_true rfl) dX0_push_45 (fun H locs hW hS => ?_)
  obtain ⟨V4, eV4⟩ : ∃ x, x = va_up V3 (PB + 20 + nx) (some (.inl (cy 1, 12, .inr (.inl (va_cpy kp (hs nx) 0 0 12))))) := ⟨_, rfl⟩
  rw [← eV4] at hW
  have hH0 : V4 (PB + 15) = some (.inr (0, [.ref (ad (PB + 16)), .ref (ad (PB + 17)), .ref (ad (PB + 18)), .ref (ad (PB + 19)), .int (nI nx), .int (nI kn)])) := by rw [eV4, va_up_ne _ _ (by omega)]; exact hH0
  have hH4 : V4 (PB + 19) = some (.inl (cy 4, 60, .inr (.inr (.inr (.inr (fun i => if i < 60 then some (ad (PB + 20 + i)) else none)))))) := by rw [eV4, va_up_ne _ _ (by omega)]; exact hH4
  have hC3 : V4 (PB + 13) = some (.inl (cy 1, 12, .inr (.inl kp))) := by rw [eV4, va_up_ne _ _ (by omega)]; exact hC3
  have hH1 : V4 (PB + 16) = some (.inl (cy 0, 60, .inl (upd ho nx o))) := by rw [eV4, va_up_ne _ _ (by omega)]; exact hH1
  have hH2 : V4 (PB + 17) = some (.inl (cy 0, 60, .inl (upd hm nx mm))) := by rw [eV4, va_up_ne _ _ (by omega)]; exact hH2
  have hH3 : V4 (PB + 18) = some (.inl (cy 0, 60, .inl (upd hv nx v))) := by rw [eV4, va_up_ne _ _ (by omega)]; exact hH3
  have hHx : V4 (PB + 20 + nx) = some (.inl (cy 1, 12, .inr (.inl (va_cpy kp (hs nx) 0 0 12)))) := by rw [eV4, va_up_self]
  refine lv_aload_n hx hb dX0_push_48 rfl (lv_at hl 0 rfl) ?_
  refine jl (pcj := 70) (st := [.int (nI (nxU nx)), .ref (ad (PB + 15))]) (nL := 5) (lv := [(0, .ref (ad (PB + 15))), (1, .int (o)), (2, .int (mm)), (3, .int (v)), (4, .ref (ad (PB + 13)))]) (fun K => ?_) (fun ls hl => ?_)
  · skip
    refine lv_aload_n hx hb dX0_push_49 rfl (lv_at hl 0 rfl) ?_
    refine g_X0_X0_next hx hb hown hK hW hH0 dX0_push_50 ?_
    refine lv_iconst (v := nI 1) hx hb dX0_push_53 (by decide) ?_
    refine lv_iadd hx hb dX0_push_54 ?_
    refine asi (y := nI (nx + 1)) (nI_add _ _) ?_
    refine lv_bipush (v := nI 60) hx hb dX0_push_55 (by decide) ?_
    refine lv_icmp_ge (tgt := 69) hx hb dX0_push_57 (by decide) (fun c57 => ?_) (fun c57 => ?_)
    · skip
      have c57 := nI_le' c57 (by omega) (by omega)
      refine lv_iconst (v := nI 0) hx hb dX0_push_69 (by decide) ?_
      refine asi (y := nI (nxU nx)) (by have c57 : _ := c57; unfold nxU; first | rw [if_pos (by omega)] | rw [if_neg (by omega)]) ?_
      exact K ls (lv_sub hl [0, 1, 2, 3, 4] rfl)
    · skip
      have c57 := nI_nle' c57 (by omega) (by omega)
      refine lv_aload_n hx hb dX0_push_60 rfl (lv_at hl 0 rfl) ?_
      refine g_X0_X0_next hx hb hown hK hW hH0 dX0_push_61 ?_
      refine lv_iconst (v := nI 1) hx hb dX0_push_64 (by decide) ?_
      refine lv_iadd hx hb dX0_push_65 ?_
      refine asi (y := nI (nx + 1)) (nI_add _ _) ?_
      refine lv_goto (tgt := 70) hx hb dX0_push_66 (by decide) ?_
      refine asi (y := nI (nxU nx)) (by have c57 : _ := c57; unfold nxU; first | rw [if_pos (by omega)] | rw [if_neg (by omega)]) ?_
      exact K ls (lv_sub hl [0, 1, 2, 3, 4] rfl)
  · skip
    refine p_X0_X0_next hx hb hown hK hW hS hH0 dX0_push_70 (fun H locs hW hS => ?_)
    obtain ⟨V5, eV5⟩ : ∃ x, x = va_up V4 (PB + 15) (some (.inr (0, [.ref (ad (PB + 16)), .ref (ad (PB + 17)), .ref (ad (PB + 18)), .ref (ad (PB + 19)), .int (nI (nxU nx)), .int (nI kn)]))) := ⟨_, rfl⟩
    rw [← eV5] at hW
    have hH4 : V5 (PB + 19) = some (.inl (cy 4, 60, .inr (.inr (.inr (.inr (fun i => if i < 60 then some (ad (PB + 20 + i)) else none)))))) := by rw [eV5, va_up_ne _ _ (by omega)]; exact hH4
    have hC3 : V5 (PB + 13) = some (.inl (cy 1, 12, .inr (.inl kp))) := by rw [eV5, va_up_ne _ _ (by omega)]; exact hC3
    have hH1 : V5 (PB + 16) = some (.inl (cy 0, 60, .inl (upd ho nx o))) := by rw [eV5, va_up_ne _ _ (by omega)]; exact hH1
    have hH2 : V5 (PB + 17) = some (.inl (cy 0, 60, .inl (upd hm nx mm))) := by rw [eV5, va_up_ne _ _ (by omega)]; exact hH2
    have hH3 : V5 (PB + 18) = some (.inl (cy 0, 60, .inl (upd hv nx v))) := by rw [eV5, va_up_ne _ _ (by omega)]; exact hH3
    have hHx : V5 (PB + 20 + nx) = some (.inl (cy 1, 12, .inr (.inl (va_cpy kp (hs nx) 0 0 12)))) := by rw [eV5, va_up_ne _ _ (by omega)]; exact hHx
    have hH0 : V5 (PB + 15) = some (.inr (0, [.ref (ad (PB + 16)), .ref (ad (PB + 17)), .ref (ad (PB + 18)), .ref (ad (PB + 19)), .int (nI (nxU nx)), .int (nI kn)])) := by rw [eV5, va_up_self]
    refine lv_aload_n hx hb dX0_push_73 rfl (lv_at hl 0 rfl) ?_
    refine lv_aload_n hx hb dX0_push_74 rfl (lv_at hl 0 rfl) ?_
    refine g_X0_X0_known hx hb hown hK hW hH0 dX0_push_75 ?_
    refine lv_iconst (v := nI 1) hx hb dX0_push_78 (by decide) ?_
    refine lv_iadd hx hb dX0_push_79 ?_
    refine asi (y := nI (kn + 1)) (nI_add _ _) ?_
    refine lv_bipush (v := nI 60) hx hb dX0_push_80 (by decide) ?_
    refine k_X0_mmin hx hb (hml.trans hl.1.symm) hown hK (Nat.le_of_ble_eq_true rfl) (Nat.le_of_ble_eq_true rfl) (Nat.zero_le _) (Nat.zero_le _) dX0_push_82 ?_
    refine asi (y := nI (knU kn)) (knU_eq hkn) ?_
    refine p_X0_X0_known hx hb hown hK hW hS hH0 dX0_push_85 (fun H locs hW hS => ?_)
    obtain ⟨V6, eV6⟩ : ∃ x, x = va_up V5 (PB + 15) (some (.inr (0, [.ref (ad (PB + 16)), .ref (ad (PB + 17)), .ref (ad (PB + 18)), .ref (ad (PB + 19)), .int (nI (nxU nx)), .int (nI (knU kn))]))) := ⟨_, rfl⟩
    rw [← eV6] at hW
    have hH4 : V6 (PB + 19) = some (.inl (cy 4, 60, .inr (.inr (.inr (.inr (fun i => if i < 60 then some (ad (PB + 20 + i)) else none)))))) := by rw [eV6, va_up_ne _ _ (by omega)]; exact hH4
    have hC3 : V6 (PB + 13) = some (.inl (cy 1, 12, .inr (.inl kp))) := by rw [eV6, va_up_ne _ _ (by omega)]; exact hC3
    have hH1 : V6 (PB + 16) = some (.inl (cy 0, 60, .inl (upd ho nx o))) := by rw [eV6, va_up_ne _ _ (by omega)]; exact hH1
    have hH2 : V6 (PB + 17) = some (.inl (cy 0, 60, .inl (upd hm nx mm))) := by rw [eV6, va_up_ne _ _ (by omega)]; exact hH2
    have hH3 : V6 (PB + 18) = some (.inl (cy 0, 60, .inl (upd hv nx v))) := by rw [eV6, va_up_ne _ _ (by omega)]; exact hH3
    have hHx : V6 (PB + 20 + nx) = some (.inl (cy 1, 12, .inr (.inl (va_cpy kp (hs nx) 0 0 12)))) := by rw [eV6, va_up_ne _ _ (by omega)]; exact hHx
    have hH0 : V6 (PB + 15) = some (.inr (0, [.ref (ad (PB + 16)), .ref (ad (PB + 17)), .ref (ad (PB + 18)), .ref (ad (PB + 19)), .int (nI (nxU nx)), .int (nI (knU kn))])) := by rw [eV6, va_up_self]
    exact rwv hx hb hr hlocks dX0_push_88 hW hS (⟨rfl, ⟨hH0, hH1, hH2, hH3, hH4, fun i hi => by
    show V6 (PB + 20 + i) = _
    rw [eV6, va_up_ne _ _ (by omega), eV5, va_up_ne _ _ (by omega), eV4]
    by_cases h : i = nx
    · subst h; rw [va_up_self]; simp [hsU]
    · rw [va_up_ne _ _ (by omega), eV3, va_up_ne _ _ (by omega), eV2, va_up_ne _ _ (by omega), eV1, va_up_ne _ _ (by omega), hHr i hi]; simp [hsU, h]⟩, fun L hL => by
    show V6 L = V L
    rw [eV6, va_up_ne _ _ (by omega), eV5, va_up_ne _ _ (by omega), eV4, va_up_ne _ _ (by omega), eV3, va_up_ne _ _ (by omega), eV2, va_up_ne _ _ (by omega), eV1, va_up_ne _ _ (by omega)]⟩)

set_option maxHeartbeats 4000000 in
set_option maxRecDepth 100000 in
theorem c_X0_pop (l : Launch) (D : va_G) (cy : Nat → ClassId) (z0 : Nat) (ad : Nat → Nat) (V : Nat → Option va_E) (PB : Nat) (ho hm hv : Nat → Int32) (hs : Nat → Nat → Int64) (nx kn : Nat) (hH : isH ad V cy PB ho hm hv hs nx kn) (hnx : nx < 60) (hkn : kn ≤ 60) (hk0 : 0 < kn) : Met l yX0_pop [Cond.code yX0_pop cX0_pop 1 (some .int)] { frames := 0, cells := 0, slots := 0, locals := 0 } (WP [.ref (ad (PB + 15))] D cy z0 ad V) (va_Qi (fun r u => r = nI (nxD nx) ∧ u.1 = ad ∧ isH ad u.2 cy PB ho hm hv hs (nxD nx) (kn - 1) ∧ ∀ L, ¬ L = PB + 15 → u.2 L = V L) (WB D z0) (AA z0)) 0 0 (AA z0) := by
  refine met_of (by decide) (Nat.le_of_ble_eq_true rfl) (fun p e s m below meth c hx hb hr hml hown hlocks hnm hK hz hW ls hl => ?_)
  have hown : s.vm.findClass RX0 = some m.cls := hown
  have hl : lv_has ls 1 [(0, .ref (ad (PB + 15)))] := hl
  have hS : va_S (AA z0) s.heap s.heap [] := va_S.rf
  obtain ⟨hH0, hH1, hH2, hH3, hH4, hHr⟩ := id hH
  refine lv_aload_n hx hb dX0_pop_0 rfl (lv_at hl 0 rfl) ?_
  refine jl (pcj := 19) (st := [.int (nI (nxD nx)), .ref (ad (PB + 15))]) (nL := 1) (lv := [(0, .ref (ad (PB + 15)))]) (fun K => ?_) (fun ls hl => ?_)
  · skip
    refine lv_aload_n hx hb dX0_pop_1 rfl (lv_at hl 0 rfl) ?_
    refine g_X0_X0_next hx hb hown hK hW hH0 dX0_pop_2 ?_
    refine lv_if_le (tgt := 17) hx hb dX0_pop_5 (by decide) (fun c5 => ?_) (fun c5 => ?_)
    · skip
      have c5 := nI_le' (b := 0) c5 (by omega) (by omega)
      refine lv_bipush (v := nI 59) hx hb dX0_pop_17 (by decide) ?_
      refine asi (y := nI (nxD nx)) (by unfold nxD; first | rw [if_pos (by omega)] | rw [if_neg (by omega)]) ?_
      exact K ls (lv_sub hl [0] rfl)
    · skip
      have c5 := nI_nle' (b := 0) c5 (by omega) (by omega)
      refine lv_aload_n hx hb dX0_pop_8 rfl (lv_at hl 0 rfl) ?_
      refine g_X0_X0_next hx hb hown hK hW hH0 dX0_pop_9 ?_
      refine lv_iconst (v := nI 1) hx hb dX0_pop_12 (by decide) ?_
      refine lv_isub hx hb dX0_pop_13 ?_
      refine asi (y := nI (nx - 1)) (pk_sub (by omega)) ?_
      refine lv_goto (tgt := 19) hx hb dX0_pop_14 (by decide) ?_
      refine asi (y := nI (nxD nx)) (by unfold nxD; first | rw [if_pos (by omega)] | rw [if_neg (by omega)]) ?_
      exact K ls (lv_sub hl [0] rfl)
  · skip
    refine p_X0_X0_next hx hb hown hK hW hS hH0 dX0_pop_19 (fun H locs hW hS => ?_)
    obtain ⟨V1, eV1⟩ : ∃ x, x = va_up V (PB + 15) (some (.inr (0, [.ref (ad (PB + 16)), .ref (ad (PB + 17)), .ref (ad (PB + 18)), .ref (ad (PB + 19)), .int (nI (nxD nx)), .int (nI kn)]))) := ⟨_, rfl⟩
    rw [← eV1] at hW
    have hH1 : V1 (PB + 16) = some (.inl (cy 0, 60, .inl ho)) := by rw [eV1, va_up_ne _ _ (by omega)]; exact hH1
    have hH2 : V1 (PB + 17) = some (.inl (cy 0, 60, .inl hm)) := by rw [eV1, va_up_ne _ _ (by omega)]; exact hH2
    have hH3 : V1 (PB + 18) = some (.inl (cy 0, 60, .inl hv)) := by rw [eV1, va_up_ne _ _ (by omega)]; exact hH3
    have hH4 : V1 (PB + 19) = some (.inl (cy 4, 60, .inr (.inr (.inr (.inr (fun i => if i < 60 then some (ad (PB + 20 + i)) else none)))))) := by rw [eV1, va_up_ne _ _ (by omega)]; exact hH4
    have hH0 : V1 (PB + 15) = some (.inr (0, [.ref (ad (PB + 16)), .ref (ad (PB + 17)), .ref (ad (PB + 18)), .ref (ad (PB + 19)), .int (nI (nxD nx)), .int (nI kn)])) := by rw [eV1, va_up_self]
    refine lv_aload_n hx hb dX0_pop_22 rfl (lv_at hl 0 rfl) ?_
    refine lv_dup hx hb dX0_pop_23 rfl ?_
    refine g_X0_X0_known hx hb hown hK hW hH0 dX0_pop_24 ?_
    refine lv_iconst (v := nI 1) hx hb dX0_pop_27 (by decide) ?_
    refine lv_isub hx hb dX0_pop_28 ?_
    refine asi (y := nI (kn - 1)) (pk_sub (by omega)) ?_
    refine p_X0_X0_known hx hb hown hK hW hS hH0 dX0_pop_29 (fun H locs hW hS => ?_)
    obtain ⟨V2, eV2⟩ : ∃ x, x = va_up V1 (PB + 15) (some (.inr (0, [.ref (ad (PB + 16)), .ref (ad (PB + 17)), .ref (ad (PB + 18)), .ref (ad (PB + 19)), .int (nI (nxD nx)), .int (nI (kn - 1))]))) := ⟨_, rfl⟩
    rw [← eV2] at hW
    have hH1 : V2 (PB + 16) = some (.inl (cy 0, 60, .inl ho)) := by rw [eV2, va_up_ne _ _ (by omega)]; exact hH1
    have hH2 : V2 (PB + 17) = some (.inl (cy 0, 60, .inl hm)) := by rw [eV2, va_up_ne _ _ (by omega)]; exact hH2
    have hH3 : V2 (PB + 18) = some (.inl (cy 0, 60, .inl hv)) := by rw [eV2, va_up_ne _ _ (by omega)]; exact hH3
    have hH4 : V2 (PB + 19) = some (.inl (cy 4, 60, .inr (.inr (.inr (.inr (fun i => if i < 60 then some (ad (PB + 20 + i)) else none)))))) := by rw [eV2, va_up_ne _ _ (by omega)]; exact hH4
    have hH0 : V2 (PB + 15) = some (.inr (0, [.ref (ad (PB + 16)), .ref (ad (PB + 17)), .ref (ad (PB + 18)), .ref (ad (PB + 19)), .int (nI (nxD nx)), .int (nI (kn - 1))])) := by rw [eV2, va_up_self]
    refine lv_aload_n hx hb dX0_pop_32 rfl (lv_at hl 0 rfl) ?_
    refine g_X0_X0_next hx hb hown hK hW hH0 dX0_pop_33 ?_
    exact rwi hx hb hr hlocks dX0_pop_36 hW hS (⟨rfl, rfl, ⟨hH0, hH1, hH2, hH3, hH4, fun i hi => by
    show V2 (PB + 20 + i) = _
    rw [eV2, va_up_ne _ _ (by omega), eV1, va_up_ne _ _ (by omega)]; exact hHr i hi⟩, fun L hL => by
    show V2 L = V L
    rw [eV2, va_up_ne _ _ hL, eV1, va_up_ne _ _ hL]⟩)

set_option maxHeartbeats 4000000 in
set_option maxRecDepth 100000 in
theorem c_X1_layOut (l : Launch) (D : va_G) (cy : Nat → ClassId) (z0 : Nat) (ad : Nat → Nat) (V : Nat → Option va_E) (PB n n2 k : Nat) (M M2 : Nat → Nat → Int32) (kp : Nat → Int64) (fb : Nat → Bool) (ch co fo bk : Int32) (bb : Bool) (ρ : RuT) (hC : isC ad V cy PB n M n2 M2 kp fb ch co fo bb bk) (hB : isBk ad V cy k ρ) (hk : okR k ρ) (hn40 : n ≤ 40) (hn2 : n2 ≤ 40) (hPB : 100 ≤ PB) (hnn : n2 ≤ n) (hZ : Zt n M) (hZ2 : Zt n2 M2) (mm oo : Nat) (v : Int32) (hm3 : mm < 3) (hoo : oo < n) : Met l yX1_layOut [Cond.code yX1_layOut cX1_layOut 4 none] { frames := 3, cells := 0, slots := 0, locals := 82 } (WP [.ref (ad PB), .int (nI oo), .int (nI mm), .int (v)] D cy z0 ad V) (va_Qv (fun u => u.1 = ad ∧ isT ad u.2 cy (PB + 7) n (putM n M mm oo v) ∧ ∀ L, (L < PB + 7 ∨ PB + 7 + 6 ≤ L) → u.2 L = V L) (WB D z0) (AA z0)) 0 0 (AA z0) := by
  refine met_of (by decide) (Nat.le_of_ble_eq_true rfl) (fun p e s m below meth c hx hb hr hml hown hlocks hnm hK hz hW ls hl => ?_)
  have hown : s.vm.findClass RX1 = some m.cls := hown
  have hl : lv_has ls 4 [(0, .ref (ad PB)), (1, .int (nI oo)), (2, .int (nI mm)), (3, .int (v))] := hl
  have hS : va_S (AA z0) s.heap s.heap [] := va_S.rf
  have hk12 := hk.1
  obtain ⟨hC0, hCT, hCU, hC3, hC4⟩ := id hC
  obtain ⟨hT0, hT1, hTr⟩ := id hCT
  obtain ⟨hU0, hU1, hUr⟩ := id hCU
  obtain ⟨hB0, hB1, hBr⟩ := id hB
  refine lv_aload_n hx hb dX1_layOut_0 rfl (lv_at hl 0 rfl) ?_
  refine g_X1_X1_behind hx hb hown hK hW hC0 dX1_layOut_1 ?_
  refine lv_aload_n hx hb dX1_layOut_4 rfl (lv_at hl 0 rfl) ?_
  refine g_X1_X1_now hx hb hown hK hW hC0 dX1_layOut_5 ?_
  refine cv (va_runV (As := [.ref (ad (PB + 1))]) (rest := []) ⟨hx, hb, hml, hown, hK.1.use _⟩ (c_X5_becomeLike l D cy z0 ad V (PB + 7) n2 M2 hCU (PB + 1) n M hCT hnn (by omega) (by omega) hZ2 hZ) (k_X1_X5_becomeLike hK.1 rfl rfl ⟨Nat.le_of_ble_eq_true rfl, Nat.le_of_ble_eq_true rfl⟩) (preV hK hz hW hU0 rfl) rfl rfl hl.1 rfl (lv_room (Nat.le_of_ble_eq_true rfl)) dX1_layOut_8 ⟨Nat.le_of_ble_eq_true rfl, Nat.le_of_ble_eq_true rfl⟩) hS (fun ad8 Vc8 H locs h8 hW hS => ?_)
  obtain ⟨e8, hT8, hfr8⟩ := h8
  obtain rfl : ad = ad8 := e8.symm
  have hC8 := hC.lay hT8 hfr8
  have hB8 := hB.mv hk.1 (fun L h1 h2 => hfr8 L (by omega))
  have hk12 := hk.1
  obtain ⟨hC0, hCT, hCU, hC3, hC4⟩ := id hC8
  obtain ⟨hT0, hT1, hTr⟩ := id hCT
  obtain ⟨hU0, hU1, hUr⟩ := id hCU
  obtain ⟨hB0, hB1, hBr⟩ := id hB8
  refine lv_aload_n hx hb dX1_layOut_11 rfl (lv_at hl 0 rfl) ?_
  refine g_X1_X1_behind hx hb hown hK hW hC0 dX1_layOut_12 ?_
  refine lv_iload_n hx hb dX1_layOut_15 rfl (lv_at hl 1 rfl) ?_
  refine lv_iload_n hx hb dX1_layOut_16 rfl (lv_at hl 2 rfl) ?_
  refine lv_iload_n hx hb dX1_layOut_17 rfl (lv_at hl 3 rfl) ?_
  refine cv (va_runV (As := [.int (nI oo), .int (nI mm), .int (v)]) (rest := []) ⟨hx, hb, hml, hown, hK.1.use _⟩ (c_X5_put l D cy z0 ad Vc8 (PB + 7) n M hCU (by omega) mm oo v hm3 hoo) (k_X1_X5_put hK.1 rfl rfl ⟨Nat.le_of_ble_eq_true rfl, Nat.le_of_ble_eq_true rfl⟩) (preV hK (Nat.le_trans hz hS.1) hW hU0 rfl) rfl rfl hl.1 rfl (lv_room (Nat.le_of_ble_eq_true rfl)) dX1_layOut_18 ⟨Nat.le_of_ble_eq_true rfl, Nat.le_of_ble_eq_true rfl⟩) hS (fun ad18 Vc18 H locs h18 hW hS => ?_)
  obtain ⟨e18, hT9, hfr9⟩ := h18
  obtain rfl : ad = ad18 := e18.symm
  exact rwv hx hb hr hlocks dX1_layOut_21 hW hS (⟨rfl, hT9, fun L hL => (hfr9 L hL).trans (hfr8 L hL)⟩)

set_option maxHeartbeats 4000000 in
set_option maxRecDepth 100000 in
theorem c_X1_moveOn (l : Launch) (D : va_G) (cy : Nat → ClassId) (z0 : Nat) (ad : Nat → Nat) (V : Nat → Option va_E) (PB n n2 k : Nat) (M M2 : Nat → Nat → Int32) (kp : Nat → Int64) (fb : Nat → Bool) (ch co fo bk : Int32) (bb : Bool) (ρ : RuT) (hC : isC ad V cy PB n M n2 M2 kp fb ch co fo bb bk) (hB : isBk ad V cy k ρ) (hk : okR k ρ) (hn40 : n ≤ 40) (hn2 : n2 ≤ 40) (hPB : 100 ≤ PB) (hnn : n ≤ n2) (hZ : Zt n M) (hZ2 : Zt n2 M2) : Met l yX1_moveOn [Cond.code yX1_moveOn cX1_moveOn 2 none] { frames := 2, cells := 0, slots := 0, locals := 82 } (WP [.ref (ad PB)] D cy z0 ad V) (va_Qv (fun u => u.1 = ad ∧ isC ad u.2 cy PB n2 M2 n2 M2 kp fb ch (co + nI (ctS ρ M M2 n k)) fo bb bk ∧ ∀ L, (L < PB ∨ PB + 7 ≤ L) → u.2 L = V L) (WB D z0) (AA z0)) 0 0 (AA z0) := by
  refine met_of (by decide) (Nat.le_of_ble_eq_true rfl) (fun p e s m below meth c hx hb hr hml hown hlocks hnm hK hz hW ls hl => ?_)
  have hown : s.vm.findClass RX1 = some m.cls := hown
  have hl : lv_has ls 2 [(0, .ref (ad PB))] := hl
  have hS : va_S (AA z0) s.heap s.heap [] := va_S.rf
  have hk12 := hk.1
  obtain ⟨hC0, hCT, hCU, hC3, hC4⟩ := id hC
  obtain ⟨hT0, hT1, hTr⟩ := id hCT
  obtain ⟨hU0, hU1, hUr⟩ := id hCU
  obtain ⟨hB0, hB1, hBr⟩ := id hB
  refine lv_iconst (v := nI 0) hx hb dX1_moveOn_0 (by decide) ?_
  refine lv_istore_n (lv' := [(1, .int (nI 0)), (0, .ref (ad PB))]) hx hb dX1_moveOn_1 rfl hl (by decide) rfl (fun ls hl => ?_)
  refine wlh (ι := Nat) (fun i => k - i) (fun i H locs g => (i ≤ k) ∧ (∃ X, (isC ad X cy PB n M n2 M2 kp fb ch (co + nI (ctS ρ M M2 n i)) fo bb bk ∧ ∀ L, ¬ L = PB → X L = V L) ∧ HW D z0 ad X H) ∧ va_S (AA z0) s.heap H locs ∧ ∃ ls, g = F0 m 2 ls [] ∧ lv_has ls 2 [(0, .ref (ad PB)), (1, .int (nI i))]) ?_ (0) _ _ _ ⟨Nat.zero_le _, ⟨_, ⟨by rw [show co + nI (ctS ρ M M2 n 0) = co from by show co + nI 0 = co; rw [nI_0]; simp]; exact hC, fun L _ => rfl⟩, hW⟩, hS, ls, rfl, lv_sub hl [1, 0] rfl⟩
  intro i H locs g hg ih
  obtain ⟨hi, ⟨Vl, ⟨hCl, hfr⟩, hW⟩, hS, ls, rfl, hl⟩ := hg
  have hBl := hB.mv hk.1 (fun L h1 h2 => hfr L (by omega))
  obtain ⟨hC0, hCT, hCU, hC3, hC4⟩ := id hCl
  obtain ⟨hT0, hT1, hTr⟩ := id hCT
  obtain ⟨hU0, hU1, hUr⟩ := id hCU
  obtain ⟨hB0, hB1, hBr⟩ := id hBl
  refine lv_iload_n hx hb dX1_moveOn_2 rfl (lv_at hl 1 rfl) ?_
  refine lv_aload_n hx hb dX1_moveOn_3 rfl (lv_at hl 0 rfl) ?_
  refine g_X1_X1_book hx hb hown hK hW hC0 dX1_moveOn_4 ?_
  refine g_X1_X3_size hx hb hown hK hW hB0 dX1_moveOn_7 ?_
  refine lv_icmp_ge (tgt := 48) hx hb dX1_moveOn_10 (by decide) (fun c10 => ?_) (fun c10 => ?_)
  · skip
    have c10 := nI_le' c10 (by omega) (by omega)
    have e9 : i = k := by omega
    subst e9
    refine lv_aload_n hx hb dX1_moveOn_48 rfl (lv_at hl 0 rfl) ?_
    refine g_X1_X1_now hx hb hown hK hW hC0 dX1_moveOn_49 ?_
    refine lv_aload_n hx hb dX1_moveOn_52 rfl (lv_at hl 0 rfl) ?_
    refine g_X1_X1_behind hx hb hown hK hW hC0 dX1_moveOn_53 ?_
    refine cv (va_runV (As := [.ref (ad (PB + 7))]) (rest := []) ⟨hx, hb, hml, hown, hK.1.use _⟩ (c_X5_becomeLike l D cy z0 ad Vl (PB + 1) n M hCT (PB + 7) n2 M2 hCU hnn (by omega) (by omega) hZ hZ2) (k_X1_X5_becomeLike hK.1 rfl rfl ⟨Nat.le_of_ble_eq_true rfl, Nat.le_of_ble_eq_true rfl⟩) (preV hK (Nat.le_trans hz hS.1) hW hT0 rfl) rfl rfl hl.1 rfl (lv_room (Nat.le_of_ble_eq_true rfl)) dX1_moveOn_56 ⟨Nat.le_of_ble_eq_true rfl, Nat.le_of_ble_eq_true rfl⟩) hS (fun ad56 Vc56 H locs h56 hW hS => ?_)
    obtain ⟨e56, hT9, hfr9⟩ := h56
    obtain rfl : ad = ad56 := e56.symm
    exact rwv hx hb hr hlocks dX1_moveOn_59 hW hS (⟨rfl, hCl.now hT9 hfr9, fun L hL => (hfr9 L (by omega)).trans (hfr L (by omega))⟩)
  · skip
    have c10 := nI_nle' c10 (by omega) (by omega)
    have hBri := hBr i (by omega)
    have hki := hk.2 i (by omega)
    refine lv_aload_n hx hb dX1_moveOn_13 rfl (lv_at hl 0 rfl) ?_
    refine lv_dup hx hb dX1_moveOn_14 rfl ?_
    refine g_X1_X1_cost hx hb hown hK hW hC0 dX1_moveOn_15 ?_
    refine lv_aload_n hx hb dX1_moveOn_18 rfl (lv_at hl 0 rfl) ?_
    refine g_X1_X1_book hx hb hown hK hW hC0 dX1_moveOn_19 ?_
    refine g_X1_X3_rules hx hb hown hK hW hB0 dX1_moveOn_22 ?_
    refine lv_iload_n hx hb dX1_moveOn_25 rfl (lv_at hl 1 rfl) ?_
    refine w_aald hx hb hK hW 6 rfl rfl hB1 (j := i) (rfl) (by omega) (by omega) dX1_moveOn_26 ?_
    refine asv (y := .ref (ad (10 + i))) (elK (by omega)) ?_
    refine lv_aload_n hx hb dX1_moveOn_27 rfl (lv_at hl 0 rfl) ?_
    refine g_X1_X1_now hx hb hown hK hW hC0 dX1_moveOn_28 ?_
    refine lv_aload_n hx hb dX1_moveOn_31 rfl (lv_at hl 0 rfl) ?_
    refine g_X1_X1_behind hx hb hown hK hW hC0 dX1_moveOn_32 ?_
    refine vp_callSi (va_Run.run (va_runV (As := [.ref (ad (PB + 1)), .ref (ad (PB + 7))]) (rest := [.int (co + nI (ctS ρ M M2 n i)), .ref (ad PB)]) ⟨hx, hb, hml, hown, hK.1.use _⟩ (c_X2_countTouched l D cy z0 ad Vl (10 + i) (ρ i).1 (ρ i).2.1 (ρ i).2.2.1 (ρ i).2.2.2.1 (ρ i).2.2.2.2 hBri hki.1 hki.2 (PB + 1) n M hCT (PB + 7) n2 M2 hCU (by omega)) (k_X1_X2_countTouched hK.1 rfl rfl ⟨Nat.le_of_ble_eq_true rfl, Nat.le_of_ble_eq_true rfl⟩) (preV hK (Nat.le_trans hz hS.1) hW hBri rfl) rfl rfl hl.1 rfl (lv_room (Nat.le_of_ble_eq_true rfl)) dX1_moveOn_35 ⟨Nat.le_of_ble_eq_true rfl, Nat.le_of_ble_eq_true rfl⟩)) (fun r35 h35 => ?_)
    have h35 : r35 = nI (ctR ρ i M M2 n) := h35
    subst h35
    refine lv_iadd hx hb dX1_moveOn_38 ?_
    refine asi (y := co + nI (ctS ρ M M2 n (i + 1))) (by rw [Int32.add_assoc, nI_add]; rfl) ?_
    refine p_X1_X1_cost hx hb hown hK hW hS hC0 dX1_moveOn_39 (fun H locs hW hS => ?_)
    obtain ⟨V1, eV1⟩ : ∃ x, x = va_up Vl (PB) (some (.inr (1, [.ref (ad (1)), .ref (ad (PB + 1)), .ref (ad (PB + 7)), .ref (ad (PB + 13)), .ref (ad (PB + 14)), .ref (ad (PB + 15)), .int (ch), .int (co + nI (ctS ρ M M2 n (i + 1))), .int (fo), .int (b2i bb), .int (bk)]))) := ⟨_, rfl⟩
    rw [← eV1] at hW
    have hC3 : V1 (PB + 13) = some (.inl (cy 1, 12, .inr (.inl kp))) := by rw [eV1, va_up_ne _ _ (by omega)]; exact hC3
    have hC4 : V1 (PB + 14) = some (.inl (cy 2, 12, .inl (fun r => b2i (fb r)))) := by rw [eV1, va_up_ne _ _ (by omega)]; exact hC4
    have hT0 : V1 (PB + 1) = some (.inr (5, [.ref (ad (PB + 1 + 1)), .int (nI n)])) := by rw [eV1, va_up_ne _ _ (by omega)]; exact hT0
    have hT1 : V1 (PB + 1 + 1) = some (.inl (cy 3, 4, .inr (.inr (.inr (.inr (fun i => if i < 4 then some (ad (PB + 1 + 2 + i)) else none)))))) := by rw [eV1, va_up_ne _ _ (by omega)]; exact hT1
    have hU0 : V1 (PB + 7) = some (.inr (5, [.ref (ad (PB + 7 + 1)), .int (nI n2)])) := by rw [eV1, va_up_ne _ _ (by omega)]; exact hU0
    have hU1 : V1 (PB + 7 + 1) = some (.inl (cy 3, 4, .inr (.inr (.inr (.inr (fun i => if i < 4 then some (ad (PB + 7 + 2 + i)) else none)))))) := by rw [eV1, va_up_ne _ _ (by omega)]; exact hU1
    have hB0 : V1 (1) = some (.inr (3, [.ref (ad (2)), .int (nI k)])) := by rw [eV1, va_up_ne _ _ (by omega)]; exact hB0
    have hB1 : V1 (2) = some (.inl (cy 6, 12, .inr (.inr (.inr (.inr (fun i => if i < k then some (ad (10 + i)) else none)))))) := by rw [eV1, va_up_ne _ _ (by omega)]; exact hB1
    have hBri : V1 (10 + i) = some (.inr (2, [.int (nI ((ρ i).1)), .int (nI ((ρ i).2.1)), .int ((ρ i).2.2.1), .int ((ρ i).2.2.2.1), .int ((ρ i).2.2.2.2)])) := by rw [eV1, va_up_ne _ _ (by omega)]; exact hBri
    have hC0 : V1 (PB) = some (.inr (1, [.ref (ad (1)), .ref (ad (PB + 1)), .ref (ad (PB + 7)), .ref (ad (PB + 13)), .ref (ad (PB + 14)), .ref (ad (PB + 15)), .int (ch), .int (co + nI (ctS ρ M M2 n (i + 1))), .int (fo), .int (b2i bb), .int (bk)])) := by rw [eV1, va_up_self]
    refine lv_iinc (v := nI (i + 1)) (lv' := [(1, .int (nI (i + 1))), (0, .ref (ad PB))]) hx hb dX1_moveOn_42 hl (k := 1) rfl (by rw [show Int32.ofInt 1 = nI 1 from by decide]; exact nI_add _ _) (by decide) rfl (fun ls hl => ?_)
    refine lv_goto (tgt := 2) hx hb dX1_moveOn_45 (by decide) ?_
    exact ih (i + 1) _ _ _ ⟨by omega, ⟨_, ⟨⟨hC0, hCT.mv (fun L h1 h2 => by rw [eV1, va_up_ne _ _ (by omega)]), hCU.mv (fun L h1 h2 => by rw [eV1, va_up_ne _ _ (by omega)]), hC3, hC4⟩, fun L hL => by rw [eV1, va_up_ne _ _ hL]; exact hfr L hL⟩, hW⟩, hS, ls, rfl, lv_sub hl [1, 0] rfl⟩ (by omega)
end
