section
-- ===== PART A: goes FIRST, ahead of the names: the tables' words, and 'selects' of the private methods out of them =====
/-- a private method of a class that the tables say can be made, by its rows of tables_1 -/
def lw_okq (q : MethodName × Nat) : Prop := (q.1.cls ≠ "java/lang/invoke/MethodHandle" ∧ q.1.cls ≠ "java/lang/invoke/VarHandle") ∧ Cond.instantiable q.1.cls q.2 ∈ tables_1 ∧ Cond.privateMethod q.1 ∈ tables_1 ∧ Cond.instanceMethod q.1 ∈ tables_1
theorem lw_p0 : lw_okq (⟨"ColumnHall", "pick", "()I"⟩, 11) := ⟨⟨by decide +kernel, by decide +kernel⟩, List.mem_of_getElem? (i := 12) (by decide +kernel), List.mem_of_getElem? (i := 68) (by decide +kernel), List.mem_of_getElem? (i := 69) (by decide +kernel)⟩
theorem lw_p1 : lw_okq (⟨"ColumnHall", "startedBlocks", "()I"⟩, 11) := ⟨⟨by decide +kernel, by decide +kernel⟩, List.mem_of_getElem? (i := 12) (by decide +kernel), List.mem_of_getElem? (i := 72) (by decide +kernel), List.mem_of_getElem? (i := 73) (by decide +kernel)⟩
theorem lw_p2 : lw_okq (⟨"ColumnHall", "isPassedOver", "(I)Z"⟩, 11) := ⟨⟨by decide +kernel, by decide +kernel⟩, List.mem_of_getElem? (i := 12) (by decide +kernel), List.mem_of_getElem? (i := 76) (by decide +kernel), List.mem_of_getElem? (i := 77) (by decide +kernel)⟩
theorem lw_p3 : lw_okq (⟨"ColumnHall", "fullBlocks", "()I"⟩, 11) := ⟨⟨by decide +kernel, by decide +kernel⟩, List.mem_of_getElem? (i := 12) (by decide +kernel), List.mem_of_getElem? (i := 80) (by decide +kernel), List.mem_of_getElem? (i := 81) (by decide +kernel)⟩
theorem lw_p4 : lw_okq (⟨"ColumnHall", "pickFromBlock", "(II)I"⟩, 11) := ⟨⟨by decide +kernel, by decide +kernel⟩, List.mem_of_getElem? (i := 12) (by decide +kernel), List.mem_of_getElem? (i := 90) (by decide +kernel), List.mem_of_getElem? (i := 91) (by decide +kernel)⟩
theorem lw_p5 : lw_okq (⟨"ColumnHall", "isChosen", "(I)Z"⟩, 11) := ⟨⟨by decide +kernel, by decide +kernel⟩, List.mem_of_getElem? (i := 12) (by decide +kernel), List.mem_of_getElem? (i := 97) (by decide +kernel), List.mem_of_getElem? (i := 98) (by decide +kernel)⟩
theorem lw_p6 : lw_okq (⟨"ColumnHall", "moveRow", "(II)V"⟩, 11) := ⟨⟨by decide +kernel, by decide +kernel⟩, List.mem_of_getElem? (i := 12) (by decide +kernel), List.mem_of_getElem? (i := 112) (by decide +kernel), List.mem_of_getElem? (i := 113) (by decide +kernel)⟩
theorem lw_p7 : lw_okq (⟨"ColumnHall", "packFullBlocks", "()V"⟩, 11) := ⟨⟨by decide +kernel, by decide +kernel⟩, List.mem_of_getElem? (i := 12) (by decide +kernel), List.mem_of_getElem? (i := 116) (by decide +kernel), List.mem_of_getElem? (i := 117) (by decide +kernel)⟩
theorem lw_p8 : lw_okq (⟨"ColumnHall", "packBlock", "(I)V"⟩, 11) := ⟨⟨by decide +kernel, by decide +kernel⟩, List.mem_of_getElem? (i := 12) (by decide +kernel), List.mem_of_getElem? (i := 120) (by decide +kernel), List.mem_of_getElem? (i := 121) (by decide +kernel)⟩
theorem lw_p9 : lw_okq (⟨"ColumnHall", "packColumn", "(II)V"⟩, 11) := ⟨⟨by decide +kernel, by decide +kernel⟩, List.mem_of_getElem? (i := 12) (by decide +kernel), List.mem_of_getElem? (i := 124) (by decide +kernel), List.mem_of_getElem? (i := 125) (by decide +kernel)⟩
theorem lw_p10 : lw_okq (⟨"ColumnHall", "noteBounds", "(II)V"⟩, 11) := ⟨⟨by decide +kernel, by decide +kernel⟩, List.mem_of_getElem? (i := 12) (by decide +kernel), List.mem_of_getElem? (i := 128) (by decide +kernel), List.mem_of_getElem? (i := 129) (by decide +kernel)⟩
theorem lw_p11 : lw_okq (⟨"ColumnHall", "differentCells", "(I)I"⟩, 11) := ⟨⟨by decide +kernel, by decide +kernel⟩, List.mem_of_getElem? (i := 12) (by decide +kernel), List.mem_of_getElem? (i := 138) (by decide +kernel), List.mem_of_getElem? (i := 139) (by decide +kernel)⟩
theorem lw_p12 : lw_okq (⟨"ColumnHall", "stoodBefore", "(II)Z"⟩, 11) := ⟨⟨by decide +kernel, by decide +kernel⟩, List.mem_of_getElem? (i := 12) (by decide +kernel), List.mem_of_getElem? (i := 142) (by decide +kernel), List.mem_of_getElem? (i := 143) (by decide +kernel)⟩
theorem lw_p13 : lw_okq (⟨"ColumnHall", "runsOfCells", "(I)I"⟩, 11) := ⟨⟨by decide +kernel, by decide +kernel⟩, List.mem_of_getElem? (i := 12) (by decide +kernel), List.mem_of_getElem? (i := 149) (by decide +kernel), List.mem_of_getElem? (i := 150) (by decide +kernel)⟩
theorem lw_p14 : lw_okq (⟨"ColumnHall", "offerWay", "(III)V"⟩, 11) := ⟨⟨by decide +kernel, by decide +kernel⟩, List.mem_of_getElem? (i := 12) (by decide +kernel), List.mem_of_getElem? (i := 153) (by decide +kernel), List.mem_of_getElem? (i := 154) (by decide +kernel)⟩
theorem lw_p15 : lw_okq (⟨"java/lang/Throwable", "fillInStackTrace", "(I)Ljava/lang/Throwable;"⟩, 6) := ⟨⟨by decide +kernel, by decide +kernel⟩, List.mem_of_getElem? (i := 204) (by decide +kernel), List.mem_of_getElem? (i := 202) (by decide +kernel), List.mem_of_getElem? (i := 203) (by decide +kernel)⟩
def lw_privs_1 : List (MethodName × Nat) := [(⟨"ColumnHall", "pick", "()I"⟩, 11), (⟨"ColumnHall", "startedBlocks", "()I"⟩, 11), (⟨"ColumnHall", "isPassedOver", "(I)Z"⟩, 11), (⟨"ColumnHall", "fullBlocks", "()I"⟩, 11), (⟨"ColumnHall", "pickFromBlock", "(II)I"⟩, 11), (⟨"ColumnHall", "isChosen", "(I)Z"⟩, 11), (⟨"ColumnHall", "moveRow", "(II)V"⟩, 11), (⟨"ColumnHall", "packFullBlocks", "()V"⟩, 11), (⟨"ColumnHall", "packBlock", "(I)V"⟩, 11), (⟨"ColumnHall", "packColumn", "(II)V"⟩, 11), (⟨"ColumnHall", "noteBounds", "(II)V"⟩, 11), (⟨"ColumnHall", "differentCells", "(I)I"⟩, 11), (⟨"ColumnHall", "stoodBefore", "(II)Z"⟩, 11), (⟨"ColumnHall", "runsOfCells", "(I)I"⟩, 11), (⟨"ColumnHall", "offerWay", "(III)V"⟩, 11), (⟨"java/lang/Throwable", "fillInStackTrace", "(I)Ljava/lang/Throwable;"⟩, 6)]
theorem lw_r1 : ∀ q ∈ lw_privs_1, lw_okq q := List.forall_mem_cons.mpr ⟨lw_p0, List.forall_mem_cons.mpr ⟨lw_p1, List.forall_mem_cons.mpr ⟨lw_p2, List.forall_mem_cons.mpr ⟨lw_p3, List.forall_mem_cons.mpr ⟨lw_p4, List.forall_mem_cons.mpr ⟨lw_p5, List.forall_mem_cons.mpr ⟨lw_p6, List.forall_mem_cons.mpr ⟨lw_p7, List.forall_mem_cons.mpr ⟨lw_p8, List.forall_mem_cons.mpr ⟨lw_p9, List.forall_mem_cons.mpr ⟨lw_p10, List.forall_mem_cons.mpr ⟨lw_p11, List.forall_mem_cons.mpr ⟨lw_p12, List.forall_mem_cons.mpr ⟨lw_p13, List.forall_mem_cons.mpr ⟨lw_p14, List.forall_mem_cons.mpr ⟨lw_p15, fun _ h => absurd h List.not_mem_nil⟩⟩⟩⟩⟩⟩⟩⟩⟩⟩⟩⟩⟩⟩⟩⟩
theorem lw_p16 : lw_okq (⟨"ColumnHall", "sumOfPicked", "(III)J"⟩, 11) := ⟨⟨by decide +kernel, by decide +kernel⟩, List.mem_of_getElem? (i := 12) (by decide +kernel), List.mem_of_getElem? (i := 302) (by decide +kernel), List.mem_of_getElem? (i := 303) (by decide +kernel)⟩
theorem lw_p17 : lw_okq (⟨"ColumnHall", "boundOfPicked", "(IZII)J"⟩, 11) := ⟨⟨by decide +kernel, by decide +kernel⟩, List.mem_of_getElem? (i := 12) (by decide +kernel), List.mem_of_getElem? (i := 330) (by decide +kernel), List.mem_of_getElem? (i := 331) (by decide +kernel)⟩
theorem lw_p18 : lw_okq (⟨"ColumnHall", "sortPicked", "(IIZ)V"⟩, 11) := ⟨⟨by decide +kernel, by decide +kernel⟩, List.mem_of_getElem? (i := 12) (by decide +kernel), List.mem_of_getElem? (i := 341) (by decide +kernel), List.mem_of_getElem? (i := 342) (by decide +kernel)⟩
theorem lw_p19 : lw_okq (⟨"ColumnHall", "startsGroup", "(II)Z"⟩, 11) := ⟨⟨by decide +kernel, by decide +kernel⟩, List.mem_of_getElem? (i := 12) (by decide +kernel), List.mem_of_getElem? (i := 355) (by decide +kernel), List.mem_of_getElem? (i := 356) (by decide +kernel)⟩
theorem lw_p20 : lw_okq (⟨"ColumnHall", "groupStart", "(III)I"⟩, 11) := ⟨⟨by decide +kernel, by decide +kernel⟩, List.mem_of_getElem? (i := 12) (by decide +kernel), List.mem_of_getElem? (i := 367) (by decide +kernel), List.mem_of_getElem? (i := 368) (by decide +kernel)⟩
theorem lw_p21 : lw_okq (⟨"ColumnHall", "groupEnd", "(III)I"⟩, 11) := ⟨⟨by decide +kernel, by decide +kernel⟩, List.mem_of_getElem? (i := 12) (by decide +kernel), List.mem_of_getElem? (i := 372) (by decide +kernel), List.mem_of_getElem? (i := 373) (by decide +kernel)⟩
theorem lw_p22 : lw_okq (⟨"ColumnHall", "refuseUnpackedBlock", "(I)V"⟩, 11) := ⟨⟨by decide +kernel, by decide +kernel⟩, List.mem_of_getElem? (i := 12) (by decide +kernel), List.mem_of_getElem? (i := 390) (by decide +kernel), List.mem_of_getElem? (i := 391) (by decide +kernel)⟩
theorem lw_p23 : lw_okq (⟨"ColumnHallModel", "countChosen", "()I"⟩, 7) := ⟨⟨by decide +kernel, by decide +kernel⟩, List.mem_of_getElem? (i := 402) (by decide +kernel), List.mem_of_getElem? (i := 461) (by decide +kernel), List.mem_of_getElem? (i := 462) (by decide +kernel)⟩
theorem lw_p24 : lw_okq (⟨"ColumnHallModel", "isChosen", "(I)Z"⟩, 7) := ⟨⟨by decide +kernel, by decide +kernel⟩, List.mem_of_getElem? (i := 402) (by decide +kernel), List.mem_of_getElem? (i := 465) (by decide +kernel), List.mem_of_getElem? (i := 466) (by decide +kernel)⟩
theorem lw_p25 : lw_okq (⟨"ColumnHallModel", "least", "(II)J"⟩, 7) := ⟨⟨by decide +kernel, by decide +kernel⟩, List.mem_of_getElem? (i := 402) (by decide +kernel), List.mem_of_getElem? (i := 480) (by decide +kernel), List.mem_of_getElem? (i := 481) (by decide +kernel)⟩
theorem lw_p26 : lw_okq (⟨"ColumnHallModel", "greatest", "(II)J"⟩, 7) := ⟨⟨by decide +kernel, by decide +kernel⟩, List.mem_of_getElem? (i := 402) (by decide +kernel), List.mem_of_getElem? (i := 484) (by decide +kernel), List.mem_of_getElem? (i := 485) (by decide +kernel)⟩
theorem lw_p27 : lw_okq (⟨"ColumnHallModel", "lacks", "(II)Z"⟩, 7) := ⟨⟨by decide +kernel, by decide +kernel⟩, List.mem_of_getElem? (i := 402) (by decide +kernel), List.mem_of_getElem? (i := 495) (by decide +kernel), List.mem_of_getElem? (i := 496) (by decide +kernel)⟩
theorem lw_p28 : lw_okq (⟨"ColumnHallModel", "best", "(II)I"⟩, 7) := ⟨⟨by decide +kernel, by decide +kernel⟩, List.mem_of_getElem? (i := 402) (by decide +kernel), List.mem_of_getElem? (i := 499) (by decide +kernel), List.mem_of_getElem? (i := 500) (by decide +kernel)⟩
theorem lw_p29 : lw_okq (⟨"ColumnHallModel", "need", "(III)I"⟩, 7) := ⟨⟨by decide +kernel, by decide +kernel⟩, List.mem_of_getElem? (i := 402) (by decide +kernel), List.mem_of_getElem? (i := 503) (by decide +kernel), List.mem_of_getElem? (i := 504) (by decide +kernel)⟩
theorem lw_p30 : lw_okq (⟨"ColumnHallModel", "countGroups", "(I)I"⟩, 7) := ⟨⟨by decide +kernel, by decide +kernel⟩, List.mem_of_getElem? (i := 402) (by decide +kernel), List.mem_of_getElem? (i := 532) (by decide +kernel), List.mem_of_getElem? (i := 533) (by decide +kernel)⟩
theorem lw_p31 : lw_okq (⟨"ColumnHallModel", "isFirst", "(II)Z"⟩, 7) := ⟨⟨by decide +kernel, by decide +kernel⟩, List.mem_of_getElem? (i := 402) (by decide +kernel), List.mem_of_getElem? (i := 536) (by decide +kernel), List.mem_of_getElem? (i := 537) (by decide +kernel)⟩
def lw_privs_2 : List (MethodName × Nat) := [(⟨"ColumnHall", "sumOfPicked", "(III)J"⟩, 11), (⟨"ColumnHall", "boundOfPicked", "(IZII)J"⟩, 11), (⟨"ColumnHall", "sortPicked", "(IIZ)V"⟩, 11), (⟨"ColumnHall", "startsGroup", "(II)Z"⟩, 11), (⟨"ColumnHall", "groupStart", "(III)I"⟩, 11), (⟨"ColumnHall", "groupEnd", "(III)I"⟩, 11), (⟨"ColumnHall", "refuseUnpackedBlock", "(I)V"⟩, 11), (⟨"ColumnHallModel", "countChosen", "()I"⟩, 7), (⟨"ColumnHallModel", "isChosen", "(I)Z"⟩, 7), (⟨"ColumnHallModel", "least", "(II)J"⟩, 7), (⟨"ColumnHallModel", "greatest", "(II)J"⟩, 7), (⟨"ColumnHallModel", "lacks", "(II)Z"⟩, 7), (⟨"ColumnHallModel", "best", "(II)I"⟩, 7), (⟨"ColumnHallModel", "need", "(III)I"⟩, 7), (⟨"ColumnHallModel", "countGroups", "(I)I"⟩, 7), (⟨"ColumnHallModel", "isFirst", "(II)Z"⟩, 7)]
theorem lw_r2 : ∀ q ∈ lw_privs_2, lw_okq q := List.forall_mem_cons.mpr ⟨lw_p16, List.forall_mem_cons.mpr ⟨lw_p17, List.forall_mem_cons.mpr ⟨lw_p18, List.forall_mem_cons.mpr ⟨lw_p19, List.forall_mem_cons.mpr ⟨lw_p20, List.forall_mem_cons.mpr ⟨lw_p21, List.forall_mem_cons.mpr ⟨lw_p22, List.forall_mem_cons.mpr ⟨lw_p23, List.forall_mem_cons.mpr ⟨lw_p24, List.forall_mem_cons.mpr ⟨lw_p25, List.forall_mem_cons.mpr ⟨lw_p26, List.forall_mem_cons.mpr ⟨lw_p27, List.forall_mem_cons.mpr ⟨lw_p28, List.forall_mem_cons.mpr ⟨lw_p29, List.forall_mem_cons.mpr ⟨lw_p30, List.forall_mem_cons.mpr ⟨lw_p31, fun _ h => absurd h List.not_mem_nil⟩⟩⟩⟩⟩⟩⟩⟩⟩⟩⟩⟩⟩⟩⟩⟩
theorem lw_p32 : lw_okq (⟨"ColumnHallModel", "firstOf", "(II)I"⟩, 7) := ⟨⟨by decide +kernel, by decide +kernel⟩, List.mem_of_getElem? (i := 402) (by decide +kernel), List.mem_of_getElem? (i := 544) (by decide +kernel), List.mem_of_getElem? (i := 545) (by decide +kernel)⟩
def lw_privs_3 : List (MethodName × Nat) := [(⟨"ColumnHallModel", "firstOf", "(II)I"⟩, 7)]
theorem lw_r3 : ∀ q ∈ lw_privs_3, lw_okq q := List.forall_mem_cons.mpr ⟨lw_p32, fun _ h => absurd h List.not_mem_nil⟩
def lw_privs : List (MethodName × Nat) := lw_privs_1 ++ (lw_privs_2 ++ (lw_privs_3))
def lw_tbl : List Cond := k2_sels lw_privs ++ tables_1
theorem lw_privs_ok : ∀ q ∈ lw_privs, lw_okq q := by
  show ∀ q ∈ lw_privs_1 ++ (lw_privs_2 ++ (lw_privs_3)), lw_okq q
  exact List.forall_mem_append.mpr ⟨lw_r1, List.forall_mem_append.mpr ⟨lw_r2, lw_r3⟩⟩
end
section
/-! Names: methods with their code, fields; rows that decode the hall. By program (wip/whole/mknames.py) out of the tables and the listing. -/
def RX0 : String := "ColumnHall"
def TX0 : u_T := fun k => match k with
  | 0 => ("ColumnHall", "cells", "[J", true)
  | 1 => ("ColumnHall", "rowCount", "I", false)
  | 2 => ("ColumnHall", "conditionColumns", "[I", true)
  | 3 => ("ColumnHall", "conditionOps", "[I", true)
  | 4 => ("ColumnHall", "conditionValues", "[J", true)
  | 5 => ("ColumnHall", "conditionCount", "I", false)
  | 6 => ("ColumnHall", "leastCells", "[J", true)
  | 7 => ("ColumnHall", "greatestCells", "[J", true)
  | 8 => ("ColumnHall", "bestWays", "[I", true)
  | 9 => ("ColumnHall", "bestBits", "[I", true)
  | _ => ("ColumnHall", "picked", "[I", true)
def tyX0 : Nat → FieldType := fun k => match k with
  | 0 => .array .long
  | 1 => .int
  | 2 => .array .int
  | 3 => .array .int
  | 4 => .array .long
  | 5 => .int
  | 6 => .array .long
  | 7 => .array .long
  | 8 => .array .int
  | 9 => .array .int
  | _ => .array .int

theorem nmX0 : ∀ a, a < 11 → ∀ b, b < 11 → a ≠ b → (TX0 a).2.1 ≠ (TX0 b).2.1 := by decide +kernel
theorem tyX0_ok : ∀ k, k < 11 → parseFieldDescriptor (TX0 k).2.2.1 = some (tyX0 k) := by decide +kernel
def RX1 : String := "ColumnHallModel"
def RL : String := "ColumnHallLaw"
abbrev cX0_init : ByteArray := prog_1_method_1_code
def yX0_init : MethodName := ⟨RX0, "<init>", "()V"⟩
abbrev cX0_append : ByteArray := prog_1_method_2_code
def yX0_append : MethodName := ⟨RX0, "append", "(IIIJ)I"⟩
abbrev cX0_rows : ByteArray := prog_1_method_3_code
def yX0_rows : MethodName := ⟨RX0, "rows", "()I"⟩
abbrev cX0_cell : ByteArray := prog_1_method_4_code
def yX0_cell : MethodName := ⟨RX0, "cell", "(II)J"⟩
abbrev cX0_where : ByteArray := prog_1_method_5_code
def yX0_where : MethodName := ⟨RX0, "where", "(IIJ)I"⟩
abbrev cX0_all : ByteArray := prog_1_method_6_code
def yX0_all : MethodName := ⟨RX0, "all", "()I"⟩
abbrev cX0_chosen : ByteArray := prog_1_method_7_code
def yX0_chosen : MethodName := ⟨RX0, "chosen", "()I"⟩
abbrev cX0_row : ByteArray := prog_1_method_8_code
def yX0_row : MethodName := ⟨RX0, "row", "(I)I"⟩
abbrev cX0_blocks : ByteArray := prog_1_method_9_code
def yX0_blocks : MethodName := ⟨RX0, "blocks", "()I"⟩
abbrev cX0_sum : ByteArray := prog_1_method_10_code
def yX0_sum : MethodName := ⟨RX0, "sum", "(I)J"⟩
abbrev cX0_bound : ByteArray := prog_1_method_11_code
def yX0_bound : MethodName := ⟨RX0, "bound", "(IZ)J"⟩
abbrev cX0_ranked : ByteArray := prog_1_method_12_code
def yX0_ranked : MethodName := ⟨RX0, "ranked", "(II)I"⟩
abbrev cX0_groups : ByteArray := prog_1_method_13_code
def yX0_groups : MethodName := ⟨RX0, "groups", "(I)I"⟩
abbrev cX0_group : ByteArray := prog_1_method_14_code
def yX0_group : MethodName := ⟨RX0, "group", "(IIII)J"⟩
abbrev cX0_pairs : ByteArray := prog_1_method_15_code
def yX0_pairs : MethodName := ⟨RX0, "pairs", "(II)I"⟩
abbrev cX0_way : ByteArray := prog_1_method_16_code
def yX0_way : MethodName := ⟨RX0, "way", "(II)I"⟩
abbrev cX0_bits : ByteArray := prog_1_method_17_code
def yX0_bits : MethodName := ⟨RX0, "bits", "(II)I"⟩
abbrev cX0_purge : ByteArray := prog_1_method_18_code
def yX0_purge : MethodName := ⟨RX0, "purge", "()I"⟩
abbrev cX0_refuseBadColumn : ByteArray := prog_1_method_19_code
def yX0_refuseBadColumn : MethodName := ⟨RX0, "refuseBadColumn", "(I)V"⟩
abbrev cX0_refuseUnpackedBlock : ByteArray := prog_1_method_20_code
def yX0_refuseUnpackedBlock : MethodName := ⟨RX0, "refuseUnpackedBlock", "(I)V"⟩
abbrev cX0_spot : ByteArray := prog_1_method_21_code
def yX0_spot : MethodName := ⟨RX0, "spot", "(II)I"⟩
abbrev cX0_place : ByteArray := prog_1_method_22_code
def yX0_place : MethodName := ⟨RX0, "place", "(II)I"⟩
abbrev cX0_fullBlocks : ByteArray := prog_1_method_23_code
def yX0_fullBlocks : MethodName := ⟨RX0, "fullBlocks", "()I"⟩
abbrev cX0_startedBlocks : ByteArray := prog_1_method_24_code
def yX0_startedBlocks : MethodName := ⟨RX0, "startedBlocks", "()I"⟩
abbrev cX0_moveRow : ByteArray := prog_1_method_25_code
def yX0_moveRow : MethodName := ⟨RX0, "moveRow", "(II)V"⟩
abbrev cX0_pick : ByteArray := prog_1_method_26_code
def yX0_pick : MethodName := ⟨RX0, "pick", "()I"⟩
abbrev cX0_pickFromBlock : ByteArray := prog_1_method_27_code
def yX0_pickFromBlock : MethodName := ⟨RX0, "pickFromBlock", "(II)I"⟩
abbrev cX0_isChosen : ByteArray := prog_1_method_28_code
def yX0_isChosen : MethodName := ⟨RX0, "isChosen", "(I)Z"⟩
abbrev cX0_isPassedOver : ByteArray := prog_1_method_29_code
def yX0_isPassedOver : MethodName := ⟨RX0, "isPassedOver", "(I)Z"⟩
abbrev cX0_couldHold : ByteArray := prog_1_method_30_code
def yX0_couldHold : MethodName := ⟨RX0, "couldHold", "(IJJJ)Z"⟩
abbrev cX0_sumOfPicked : ByteArray := prog_1_method_31_code
def yX0_sumOfPicked : MethodName := ⟨RX0, "sumOfPicked", "(III)J"⟩
abbrev cX0_boundOfPicked : ByteArray := prog_1_method_32_code
def yX0_boundOfPicked : MethodName := ⟨RX0, "boundOfPicked", "(IZII)J"⟩
abbrev cX0_sortPicked : ByteArray := prog_1_method_33_code
def yX0_sortPicked : MethodName := ⟨RX0, "sortPicked", "(IIZ)V"⟩
abbrev cX0_comesBefore : ByteArray := prog_1_method_34_code
def yX0_comesBefore : MethodName := ⟨RX0, "comesBefore", "(JJZ)Z"⟩
abbrev cX0_startsGroup : ByteArray := prog_1_method_35_code
def yX0_startsGroup : MethodName := ⟨RX0, "startsGroup", "(II)Z"⟩
abbrev cX0_groupStart : ByteArray := prog_1_method_36_code
def yX0_groupStart : MethodName := ⟨RX0, "groupStart", "(III)I"⟩
abbrev cX0_groupEnd : ByteArray := prog_1_method_37_code
def yX0_groupEnd : MethodName := ⟨RX0, "groupEnd", "(III)I"⟩
abbrev cX0_packFullBlocks : ByteArray := prog_1_method_38_code
def yX0_packFullBlocks : MethodName := ⟨RX0, "packFullBlocks", "()V"⟩
abbrev cX0_packBlock : ByteArray := prog_1_method_39_code
def yX0_packBlock : MethodName := ⟨RX0, "packBlock", "(I)V"⟩
abbrev cX0_packColumn : ByteArray := prog_1_method_40_code
def yX0_packColumn : MethodName := ⟨RX0, "packColumn", "(II)V"⟩
abbrev cX0_offerWay : ByteArray := prog_1_method_41_code
def yX0_offerWay : MethodName := ⟨RX0, "offerWay", "(III)V"⟩
abbrev cX0_noteBounds : ByteArray := prog_1_method_42_code
def yX0_noteBounds : MethodName := ⟨RX0, "noteBounds", "(II)V"⟩
abbrev cX0_runsOfCells : ByteArray := prog_1_method_43_code
def yX0_runsOfCells : MethodName := ⟨RX0, "runsOfCells", "(I)I"⟩
abbrev cX0_differentCells : ByteArray := prog_1_method_44_code
def yX0_differentCells : MethodName := ⟨RX0, "differentCells", "(I)I"⟩
abbrev cX0_stoodBefore : ByteArray := prog_1_method_45_code
def yX0_stoodBefore : MethodName := ⟨RX0, "stoodBefore", "(II)Z"⟩
abbrev cX0_widthOf : ByteArray := prog_1_method_46_code
def yX0_widthOf : MethodName := ⟨RX0, "widthOf", "(J)I"⟩
abbrev cX1_init : ByteArray := prog_3_method_1_code
def yX1_init : MethodName := ⟨RX1, "<init>", "()V"⟩
abbrev cX1_thrown : ByteArray := prog_3_method_2_code
def yX1_thrown : MethodName := ⟨RX1, "thrown", "()I"⟩
abbrev cX1_isColumn : ByteArray := prog_3_method_3_code
def yX1_isColumn : MethodName := ⟨RX1, "isColumn", "(I)Z"⟩
abbrev cX1_append : ByteArray := prog_3_method_4_code
def yX1_append : MethodName := ⟨RX1, "append", "(IIIJ)I"⟩
abbrev cX1_rows : ByteArray := prog_3_method_5_code
def yX1_rows : MethodName := ⟨RX1, "rows", "()I"⟩
abbrev cX1_cell : ByteArray := prog_3_method_6_code
def yX1_cell : MethodName := ⟨RX1, "cell", "(II)J"⟩
abbrev cX1_where : ByteArray := prog_3_method_7_code
def yX1_where : MethodName := ⟨RX1, "where", "(IIJ)I"⟩
abbrev cX1_all : ByteArray := prog_3_method_8_code
def yX1_all : MethodName := ⟨RX1, "all", "()I"⟩
abbrev cX1_holds : ByteArray := prog_3_method_9_code
def yX1_holds : MethodName := ⟨RX1, "holds", "(IJJ)Z"⟩
abbrev cX1_isChosen : ByteArray := prog_3_method_10_code
def yX1_isChosen : MethodName := ⟨RX1, "isChosen", "(I)Z"⟩
abbrev cX1_countChosen : ByteArray := prog_3_method_11_code
def yX1_countChosen : MethodName := ⟨RX1, "countChosen", "()I"⟩
abbrev cX1_chosen : ByteArray := prog_3_method_12_code
def yX1_chosen : MethodName := ⟨RX1, "chosen", "()I"⟩
abbrev cX1_row : ByteArray := prog_3_method_13_code
def yX1_row : MethodName := ⟨RX1, "row", "(I)I"⟩
abbrev cX1_least : ByteArray := prog_3_method_14_code
def yX1_least : MethodName := ⟨RX1, "least", "(II)J"⟩
abbrev cX1_greatest : ByteArray := prog_3_method_15_code
def yX1_greatest : MethodName := ⟨RX1, "greatest", "(II)J"⟩
abbrev cX1_could : ByteArray := prog_3_method_16_code
def yX1_could : MethodName := ⟨RX1, "could", "(IJJJ)Z"⟩
abbrev cX1_blocks : ByteArray := prog_3_method_17_code
def yX1_blocks : MethodName := ⟨RX1, "blocks", "()I"⟩
abbrev cX1_width : ByteArray := prog_3_method_18_code
def yX1_width : MethodName := ⟨RX1, "width", "(J)I"⟩
abbrev cX1_need : ByteArray := prog_3_method_19_code
def yX1_need : MethodName := ⟨RX1, "need", "(III)I"⟩
abbrev cX1_best : ByteArray := prog_3_method_20_code
def yX1_best : MethodName := ⟨RX1, "best", "(II)I"⟩
abbrev cX1_lacks : ByteArray := prog_3_method_21_code
def yX1_lacks : MethodName := ⟨RX1, "lacks", "(II)Z"⟩
abbrev cX1_way : ByteArray := prog_3_method_22_code
def yX1_way : MethodName := ⟨RX1, "way", "(II)I"⟩
abbrev cX1_bits : ByteArray := prog_3_method_23_code
def yX1_bits : MethodName := ⟨RX1, "bits", "(II)I"⟩
abbrev cX1_sum : ByteArray := prog_3_method_24_code
def yX1_sum : MethodName := ⟨RX1, "sum", "(I)J"⟩
abbrev cX1_bound : ByteArray := prog_3_method_25_code
def yX1_bound : MethodName := ⟨RX1, "bound", "(IZ)J"⟩
abbrev cX1_ranked : ByteArray := prog_3_method_26_code
def yX1_ranked : MethodName := ⟨RX1, "ranked", "(II)I"⟩
abbrev cX1_isFirst : ByteArray := prog_3_method_27_code
def yX1_isFirst : MethodName := ⟨RX1, "isFirst", "(II)Z"⟩
abbrev cX1_countGroups : ByteArray := prog_3_method_28_code
def yX1_countGroups : MethodName := ⟨RX1, "countGroups", "(I)I"⟩
abbrev cX1_groups : ByteArray := prog_3_method_29_code
def yX1_groups : MethodName := ⟨RX1, "groups", "(I)I"⟩
abbrev cX1_firstOf : ByteArray := prog_3_method_30_code
def yX1_firstOf : MethodName := ⟨RX1, "firstOf", "(II)I"⟩
abbrev cX1_group : ByteArray := prog_3_method_31_code
def yX1_group : MethodName := ⟨RX1, "group", "(IIII)J"⟩
abbrev cX1_pairs : ByteArray := prog_3_method_32_code
def yX1_pairs : MethodName := ⟨RX1, "pairs", "(II)I"⟩
abbrev cX1_purge : ByteArray := prog_3_method_33_code
def yX1_purge : MethodName := ⟨RX1, "purge", "()I"⟩
abbrev cL_append : ByteArray := method_3_code
def yL_append : MethodName := ⟨RL, "append", "(LColumnHall;IIIJ[J)I"⟩
abbrev cL_cell : ByteArray := method_4_code
def yL_cell : MethodName := ⟨RL, "cell", "(LColumnHall;II[J)I"⟩
abbrev cL_where : ByteArray := method_5_code
def yL_where : MethodName := ⟨RL, "where", "(LColumnHall;IIJ[J)I"⟩
abbrev cL_row : ByteArray := method_6_code
def yL_row : MethodName := ⟨RL, "row", "(LColumnHall;I[J)I"⟩
abbrev cL_sum : ByteArray := method_7_code
def yL_sum : MethodName := ⟨RL, "sum", "(LColumnHall;I[J)I"⟩
abbrev cL_bound : ByteArray := method_8_code
def yL_bound : MethodName := ⟨RL, "bound", "(LColumnHall;IZ[J)I"⟩
abbrev cL_ranked : ByteArray := method_9_code
def yL_ranked : MethodName := ⟨RL, "ranked", "(LColumnHall;II[J)I"⟩
abbrev cL_groups : ByteArray := method_10_code
def yL_groups : MethodName := ⟨RL, "groups", "(LColumnHall;I[J)I"⟩
abbrev cL_group : ByteArray := method_11_code
def yL_group : MethodName := ⟨RL, "group", "(LColumnHall;IIII[J)I"⟩
abbrev cL_pairs : ByteArray := method_12_code
def yL_pairs : MethodName := ⟨RL, "pairs", "(LColumnHall;II[J)I"⟩
abbrev cL_way : ByteArray := method_13_code
def yL_way : MethodName := ⟨RL, "way", "(LColumnHall;II[J)I"⟩
abbrev cL_bits : ByteArray := method_14_code
def yL_bits : MethodName := ⟨RL, "bits", "(LColumnHall;II[J)I"⟩
abbrev cL_law : ByteArray := code
def yL_law : MethodName := ⟨RL, "law", "([I)Z"⟩
end
section
/-! rows that decode the hall -/
theorem dX0_init_0 : decode cX0_init 0 = .ok (.aload_n 0, 1) := by decide +kernel
theorem dX0_init_1 : decode cX0_init 1 = .ok (.invokespecial 3, 3) := by decide +kernel
theorem dX0_init_4 : decode cX0_init 4 = .ok (.aload_n 0, 1) := by decide +kernel
theorem dX0_init_5 : decode cX0_init 5 = .ok (.sipush 512, 3) := by decide +kernel
theorem dX0_init_8 : decode cX0_init 8 = .ok (.newarray .long, 2) := by decide +kernel
theorem dX0_init_10 : decode cX0_init 10 = .ok (.putfield 9, 3) := by decide +kernel
theorem dX0_init_13 : decode cX0_init 13 = .ok (.aload_n 0, 1) := by decide +kernel
theorem dX0_init_14 : decode cX0_init 14 = .ok (.iconst 0, 1) := by decide +kernel
theorem dX0_init_15 : decode cX0_init 15 = .ok (.putfield 13, 3) := by decide +kernel
theorem dX0_init_18 : decode cX0_init 18 = .ok (.aload_n 0, 1) := by decide +kernel
theorem dX0_init_19 : decode cX0_init 19 = .ok (.iconst 3, 1) := by decide +kernel
theorem dX0_init_20 : decode cX0_init 20 = .ok (.newarray .int, 2) := by decide +kernel
theorem dX0_init_22 : decode cX0_init 22 = .ok (.putfield 17, 3) := by decide +kernel
theorem dX0_init_25 : decode cX0_init 25 = .ok (.aload_n 0, 1) := by decide +kernel
theorem dX0_init_26 : decode cX0_init 26 = .ok (.iconst 3, 1) := by decide +kernel
theorem dX0_init_27 : decode cX0_init 27 = .ok (.newarray .int, 2) := by decide +kernel
theorem dX0_init_29 : decode cX0_init 29 = .ok (.putfield 21, 3) := by decide +kernel
theorem dX0_init_32 : decode cX0_init 32 = .ok (.aload_n 0, 1) := by decide +kernel
theorem dX0_init_33 : decode cX0_init 33 = .ok (.iconst 3, 1) := by decide +kernel
theorem dX0_init_34 : decode cX0_init 34 = .ok (.newarray .long, 2) := by decide +kernel
theorem dX0_init_36 : decode cX0_init 36 = .ok (.putfield 24, 3) := by decide +kernel
theorem dX0_init_39 : decode cX0_init 39 = .ok (.aload_n 0, 1) := by decide +kernel
theorem dX0_init_40 : decode cX0_init 40 = .ok (.iconst 0, 1) := by decide +kernel
theorem dX0_init_41 : decode cX0_init 41 = .ok (.putfield 27, 3) := by decide +kernel
theorem dX0_init_44 : decode cX0_init 44 = .ok (.aload_n 0, 1) := by decide +kernel
theorem dX0_init_45 : decode cX0_init 45 = .ok (.bipush 32, 2) := by decide +kernel
theorem dX0_init_47 : decode cX0_init 47 = .ok (.newarray .long, 2) := by decide +kernel
theorem dX0_init_49 : decode cX0_init 49 = .ok (.putfield 30, 3) := by decide +kernel
theorem dX0_init_52 : decode cX0_init 52 = .ok (.aload_n 0, 1) := by decide +kernel
theorem dX0_init_53 : decode cX0_init 53 = .ok (.bipush 32, 2) := by decide +kernel
theorem dX0_init_55 : decode cX0_init 55 = .ok (.newarray .long, 2) := by decide +kernel
theorem dX0_init_57 : decode cX0_init 57 = .ok (.putfield 33, 3) := by decide +kernel
theorem dX0_init_60 : decode cX0_init 60 = .ok (.aload_n 0, 1) := by decide +kernel
theorem dX0_init_61 : decode cX0_init 61 = .ok (.bipush 32, 2) := by decide +kernel
theorem dX0_init_63 : decode cX0_init 63 = .ok (.newarray .int, 2) := by decide +kernel
theorem dX0_init_65 : decode cX0_init 65 = .ok (.putfield 36, 3) := by decide +kernel
theorem dX0_init_68 : decode cX0_init 68 = .ok (.aload_n 0, 1) := by decide +kernel
theorem dX0_init_69 : decode cX0_init 69 = .ok (.bipush 32, 2) := by decide +kernel
theorem dX0_init_71 : decode cX0_init 71 = .ok (.newarray .int, 2) := by decide +kernel
theorem dX0_init_73 : decode cX0_init 73 = .ok (.putfield 39, 3) := by decide +kernel
theorem dX0_init_76 : decode cX0_init 76 = .ok (.aload_n 0, 1) := by decide +kernel
theorem dX0_init_77 : decode cX0_init 77 = .ok (.sipush 128, 3) := by decide +kernel
theorem dX0_init_80 : decode cX0_init 80 = .ok (.newarray .int, 2) := by decide +kernel
theorem dX0_init_82 : decode cX0_init 82 = .ok (.putfield 42, 3) := by decide +kernel
theorem dX0_init_85 : decode cX0_init 85 = .ok (.return_, 1) := by decide +kernel
theorem dX0_append_0 : decode cX0_append 0 = .ok (.aload_n 0, 1) := by decide +kernel
theorem dX0_append_1 : decode cX0_append 1 = .ok (.getfield 13, 3) := by decide +kernel
theorem dX0_append_4 : decode cX0_append 4 = .ok (.sipush 128, 3) := by decide +kernel
theorem dX0_append_7 : decode cX0_append 7 = .ok (.if_icmp .lt 13, 3) := by decide +kernel
theorem dX0_append_10 : decode cX0_append 10 = .ok (.new 45, 3) := by decide +kernel
theorem dX0_append_13 : decode cX0_append 13 = .ok (.dup, 1) := by decide +kernel
theorem dX0_append_14 : decode cX0_append 14 = .ok (.ldc 47, 2) := by decide +kernel
theorem dX0_append_16 : decode cX0_append 16 = .ok (.invokespecial 49, 3) := by decide +kernel
theorem dX0_append_19 : decode cX0_append 19 = .ok (.athrow, 1) := by decide +kernel
theorem dX0_append_20 : decode cX0_append 20 = .ok (.aload_n 0, 1) := by decide +kernel
theorem dX0_append_21 : decode cX0_append 21 = .ok (.getfield 13, 3) := by decide +kernel
theorem dX0_append_24 : decode cX0_append 24 = .ok (.istore 6, 2) := by decide +kernel
theorem dX0_append_26 : decode cX0_append 26 = .ok (.aload_n 0, 1) := by decide +kernel
theorem dX0_append_27 : decode cX0_append 27 = .ok (.getfield 9, 3) := by decide +kernel
theorem dX0_append_30 : decode cX0_append 30 = .ok (.iload 6, 2) := by decide +kernel
theorem dX0_append_32 : decode cX0_append 32 = .ok (.iconst 0, 1) := by decide +kernel
theorem dX0_append_33 : decode cX0_append 33 = .ok (.invokestatic 52, 3) := by decide +kernel
theorem dX0_append_36 : decode cX0_append 36 = .ok (.iload_n 1, 1) := by decide +kernel
theorem dX0_append_37 : decode cX0_append 37 = .ok (.i2l, 1) := by decide +kernel
theorem dX0_append_38 : decode cX0_append 38 = .ok (.lastore, 1) := by decide +kernel
theorem dX0_append_39 : decode cX0_append 39 = .ok (.aload_n 0, 1) := by decide +kernel
theorem dX0_append_40 : decode cX0_append 40 = .ok (.getfield 9, 3) := by decide +kernel
theorem dX0_append_43 : decode cX0_append 43 = .ok (.iload 6, 2) := by decide +kernel
theorem dX0_append_45 : decode cX0_append 45 = .ok (.iconst 1, 1) := by decide +kernel
theorem dX0_append_46 : decode cX0_append 46 = .ok (.invokestatic 52, 3) := by decide +kernel
theorem dX0_append_49 : decode cX0_append 49 = .ok (.iload_n 2, 1) := by decide +kernel
theorem dX0_append_50 : decode cX0_append 50 = .ok (.i2l, 1) := by decide +kernel
theorem dX0_append_51 : decode cX0_append 51 = .ok (.lastore, 1) := by decide +kernel
theorem dX0_append_52 : decode cX0_append 52 = .ok (.aload_n 0, 1) := by decide +kernel
theorem dX0_append_53 : decode cX0_append 53 = .ok (.getfield 9, 3) := by decide +kernel
theorem dX0_append_56 : decode cX0_append 56 = .ok (.iload 6, 2) := by decide +kernel
theorem dX0_append_58 : decode cX0_append 58 = .ok (.iconst 2, 1) := by decide +kernel
theorem dX0_append_59 : decode cX0_append 59 = .ok (.invokestatic 52, 3) := by decide +kernel
theorem dX0_append_62 : decode cX0_append 62 = .ok (.iload_n 3, 1) := by decide +kernel
theorem dX0_append_63 : decode cX0_append 63 = .ok (.i2l, 1) := by decide +kernel
theorem dX0_append_64 : decode cX0_append 64 = .ok (.lastore, 1) := by decide +kernel
theorem dX0_append_65 : decode cX0_append 65 = .ok (.aload_n 0, 1) := by decide +kernel
theorem dX0_append_66 : decode cX0_append 66 = .ok (.getfield 9, 3) := by decide +kernel
theorem dX0_append_69 : decode cX0_append 69 = .ok (.iload 6, 2) := by decide +kernel
theorem dX0_append_71 : decode cX0_append 71 = .ok (.iconst 3, 1) := by decide +kernel
theorem dX0_append_72 : decode cX0_append 72 = .ok (.invokestatic 52, 3) := by decide +kernel
theorem dX0_append_75 : decode cX0_append 75 = .ok (.lload 4, 2) := by decide +kernel
theorem dX0_append_77 : decode cX0_append 77 = .ok (.lastore, 1) := by decide +kernel
theorem dX0_append_78 : decode cX0_append 78 = .ok (.aload_n 0, 1) := by decide +kernel
theorem dX0_append_79 : decode cX0_append 79 = .ok (.iload 6, 2) := by decide +kernel
theorem dX0_append_81 : decode cX0_append 81 = .ok (.iconst 1, 1) := by decide +kernel
theorem dX0_append_82 : decode cX0_append 82 = .ok (.iadd, 1) := by decide +kernel
theorem dX0_append_83 : decode cX0_append 83 = .ok (.putfield 13, 3) := by decide +kernel
theorem dX0_append_86 : decode cX0_append 86 = .ok (.aload_n 0, 1) := by decide +kernel
theorem dX0_append_87 : decode cX0_append 87 = .ok (.getfield 13, 3) := by decide +kernel
theorem dX0_append_90 : decode cX0_append 90 = .ok (.bipush 16, 2) := by decide +kernel
theorem dX0_append_92 : decode cX0_append 92 = .ok (.irem, 1) := by decide +kernel
theorem dX0_append_93 : decode cX0_append 93 = .ok (.ifCond .ne 12, 3) := by decide +kernel
theorem dX0_append_96 : decode cX0_append 96 = .ok (.aload_n 0, 1) := by decide +kernel
theorem dX0_append_97 : decode cX0_append 97 = .ok (.iload 6, 2) := by decide +kernel
theorem dX0_append_99 : decode cX0_append 99 = .ok (.bipush 16, 2) := by decide +kernel
theorem dX0_append_101 : decode cX0_append 101 = .ok (.idiv, 1) := by decide +kernel
theorem dX0_append_102 : decode cX0_append 102 = .ok (.invokevirtual 56, 3) := by decide +kernel
theorem dX0_append_105 : decode cX0_append 105 = .ok (.iload 6, 2) := by decide +kernel
theorem dX0_append_107 : decode cX0_append 107 = .ok (.ireturn, 1) := by decide +kernel
theorem dX0_rows_0 : decode cX0_rows 0 = .ok (.aload_n 0, 1) := by decide +kernel
theorem dX0_rows_1 : decode cX0_rows 1 = .ok (.getfield 13, 3) := by decide +kernel
theorem dX0_rows_4 : decode cX0_rows 4 = .ok (.ireturn, 1) := by decide +kernel
theorem dX0_cell_0 : decode cX0_cell 0 = .ok (.iload_n 2, 1) := by decide +kernel
theorem dX0_cell_1 : decode cX0_cell 1 = .ok (.invokestatic 60, 3) := by decide +kernel
theorem dX0_cell_4 : decode cX0_cell 4 = .ok (.iload_n 1, 1) := by decide +kernel
theorem dX0_cell_5 : decode cX0_cell 5 = .ok (.ifCond .lt 11, 3) := by decide +kernel
theorem dX0_cell_8 : decode cX0_cell 8 = .ok (.iload_n 1, 1) := by decide +kernel
theorem dX0_cell_9 : decode cX0_cell 9 = .ok (.aload_n 0, 1) := by decide +kernel
theorem dX0_cell_10 : decode cX0_cell 10 = .ok (.getfield 13, 3) := by decide +kernel
theorem dX0_cell_13 : decode cX0_cell 13 = .ok (.if_icmp .lt 13, 3) := by decide +kernel
theorem dX0_cell_16 : decode cX0_cell 16 = .ok (.new 63, 3) := by decide +kernel
theorem dX0_cell_19 : decode cX0_cell 19 = .ok (.dup, 1) := by decide +kernel
theorem dX0_cell_20 : decode cX0_cell 20 = .ok (.ldc 65, 2) := by decide +kernel
theorem dX0_cell_22 : decode cX0_cell 22 = .ok (.invokespecial 67, 3) := by decide +kernel
theorem dX0_cell_25 : decode cX0_cell 25 = .ok (.athrow, 1) := by decide +kernel
theorem dX0_cell_26 : decode cX0_cell 26 = .ok (.aload_n 0, 1) := by decide +kernel
theorem dX0_cell_27 : decode cX0_cell 27 = .ok (.getfield 9, 3) := by decide +kernel
theorem dX0_cell_30 : decode cX0_cell 30 = .ok (.iload_n 1, 1) := by decide +kernel
theorem dX0_cell_31 : decode cX0_cell 31 = .ok (.iload_n 2, 1) := by decide +kernel
theorem dX0_cell_32 : decode cX0_cell 32 = .ok (.invokestatic 52, 3) := by decide +kernel
theorem dX0_cell_35 : decode cX0_cell 35 = .ok (.laload, 1) := by decide +kernel
theorem dX0_cell_36 : decode cX0_cell 36 = .ok (.lreturn, 1) := by decide +kernel
theorem dX0_where_0 : decode cX0_where 0 = .ok (.iload_n 1, 1) := by decide +kernel
theorem dX0_where_1 : decode cX0_where 1 = .ok (.invokestatic 60, 3) := by decide +kernel
theorem dX0_where_4 : decode cX0_where 4 = .ok (.iload_n 2, 1) := by decide +kernel
theorem dX0_where_5 : decode cX0_where 5 = .ok (.ifCond .lt 8, 3) := by decide +kernel
theorem dX0_where_8 : decode cX0_where 8 = .ok (.iload_n 2, 1) := by decide +kernel
theorem dX0_where_9 : decode cX0_where 9 = .ok (.iconst 5, 1) := by decide +kernel
theorem dX0_where_10 : decode cX0_where 10 = .ok (.if_icmp .le 13, 3) := by decide +kernel
theorem dX0_where_13 : decode cX0_where 13 = .ok (.new 68, 3) := by decide +kernel
theorem dX0_where_16 : decode cX0_where 16 = .ok (.dup, 1) := by decide +kernel
theorem dX0_where_17 : decode cX0_where 17 = .ok (.ldc 70, 2) := by decide +kernel
theorem dX0_where_19 : decode cX0_where 19 = .ok (.invokespecial 72, 3) := by decide +kernel
theorem dX0_where_22 : decode cX0_where 22 = .ok (.athrow, 1) := by decide +kernel
theorem dX0_where_23 : decode cX0_where 23 = .ok (.aload_n 0, 1) := by decide +kernel
theorem dX0_where_24 : decode cX0_where 24 = .ok (.getfield 27, 3) := by decide +kernel
theorem dX0_where_27 : decode cX0_where 27 = .ok (.iconst 3, 1) := by decide +kernel
theorem dX0_where_28 : decode cX0_where 28 = .ok (.if_icmp .lt 13, 3) := by decide +kernel
theorem dX0_where_31 : decode cX0_where 31 = .ok (.new 45, 3) := by decide +kernel
theorem dX0_where_34 : decode cX0_where 34 = .ok (.dup, 1) := by decide +kernel
theorem dX0_where_35 : decode cX0_where 35 = .ok (.ldc 73, 2) := by decide +kernel
theorem dX0_where_37 : decode cX0_where 37 = .ok (.invokespecial 49, 3) := by decide +kernel
theorem dX0_where_40 : decode cX0_where 40 = .ok (.athrow, 1) := by decide +kernel
theorem dX0_where_41 : decode cX0_where 41 = .ok (.aload_n 0, 1) := by decide +kernel
theorem dX0_where_42 : decode cX0_where 42 = .ok (.getfield 17, 3) := by decide +kernel
theorem dX0_where_45 : decode cX0_where 45 = .ok (.aload_n 0, 1) := by decide +kernel
theorem dX0_where_46 : decode cX0_where 46 = .ok (.getfield 27, 3) := by decide +kernel
theorem dX0_where_49 : decode cX0_where 49 = .ok (.iload_n 1, 1) := by decide +kernel
theorem dX0_where_50 : decode cX0_where 50 = .ok (.iastore, 1) := by decide +kernel
theorem dX0_where_51 : decode cX0_where 51 = .ok (.aload_n 0, 1) := by decide +kernel
theorem dX0_where_52 : decode cX0_where 52 = .ok (.getfield 21, 3) := by decide +kernel
theorem dX0_where_55 : decode cX0_where 55 = .ok (.aload_n 0, 1) := by decide +kernel
theorem dX0_where_56 : decode cX0_where 56 = .ok (.getfield 27, 3) := by decide +kernel
theorem dX0_where_59 : decode cX0_where 59 = .ok (.iload_n 2, 1) := by decide +kernel
theorem dX0_where_60 : decode cX0_where 60 = .ok (.iastore, 1) := by decide +kernel
theorem dX0_where_61 : decode cX0_where 61 = .ok (.aload_n 0, 1) := by decide +kernel
theorem dX0_where_62 : decode cX0_where 62 = .ok (.getfield 24, 3) := by decide +kernel
theorem dX0_where_65 : decode cX0_where 65 = .ok (.aload_n 0, 1) := by decide +kernel
theorem dX0_where_66 : decode cX0_where 66 = .ok (.getfield 27, 3) := by decide +kernel
theorem dX0_where_69 : decode cX0_where 69 = .ok (.lload_n 3, 1) := by decide +kernel
theorem dX0_where_70 : decode cX0_where 70 = .ok (.lastore, 1) := by decide +kernel
theorem dX0_where_71 : decode cX0_where 71 = .ok (.aload_n 0, 1) := by decide +kernel
theorem dX0_where_72 : decode cX0_where 72 = .ok (.dup, 1) := by decide +kernel
theorem dX0_where_73 : decode cX0_where 73 = .ok (.getfield 27, 3) := by decide +kernel
theorem dX0_where_76 : decode cX0_where 76 = .ok (.iconst 1, 1) := by decide +kernel
theorem dX0_where_77 : decode cX0_where 77 = .ok (.iadd, 1) := by decide +kernel
theorem dX0_where_78 : decode cX0_where 78 = .ok (.putfield 27, 3) := by decide +kernel
theorem dX0_where_81 : decode cX0_where 81 = .ok (.aload_n 0, 1) := by decide +kernel
theorem dX0_where_82 : decode cX0_where 82 = .ok (.getfield 27, 3) := by decide +kernel
theorem dX0_where_85 : decode cX0_where 85 = .ok (.ireturn, 1) := by decide +kernel
theorem dX0_all_0 : decode cX0_all 0 = .ok (.aload_n 0, 1) := by decide +kernel
theorem dX0_all_1 : decode cX0_all 1 = .ok (.getfield 27, 3) := by decide +kernel
theorem dX0_all_4 : decode cX0_all 4 = .ok (.istore_n 1, 1) := by decide +kernel
theorem dX0_all_5 : decode cX0_all 5 = .ok (.aload_n 0, 1) := by decide +kernel
theorem dX0_all_6 : decode cX0_all 6 = .ok (.iconst 0, 1) := by decide +kernel
theorem dX0_all_7 : decode cX0_all 7 = .ok (.putfield 27, 3) := by decide +kernel
theorem dX0_all_10 : decode cX0_all 10 = .ok (.iload_n 1, 1) := by decide +kernel
theorem dX0_all_11 : decode cX0_all 11 = .ok (.ireturn, 1) := by decide +kernel
theorem dX0_chosen_0 : decode cX0_chosen 0 = .ok (.aload_n 0, 1) := by decide +kernel
theorem dX0_chosen_1 : decode cX0_chosen 1 = .ok (.invokevirtual 75, 3) := by decide +kernel
theorem dX0_chosen_4 : decode cX0_chosen 4 = .ok (.ireturn, 1) := by decide +kernel
theorem dX0_row_0 : decode cX0_row 0 = .ok (.aload_n 0, 1) := by decide +kernel
theorem dX0_row_1 : decode cX0_row 1 = .ok (.invokevirtual 75, 3) := by decide +kernel
theorem dX0_row_4 : decode cX0_row 4 = .ok (.istore_n 2, 1) := by decide +kernel
theorem dX0_row_5 : decode cX0_row 5 = .ok (.iload_n 1, 1) := by decide +kernel
theorem dX0_row_6 : decode cX0_row 6 = .ok (.ifCond .lt 8, 3) := by decide +kernel
theorem dX0_row_9 : decode cX0_row 9 = .ok (.iload_n 1, 1) := by decide +kernel
theorem dX0_row_10 : decode cX0_row 10 = .ok (.iload_n 2, 1) := by decide +kernel
theorem dX0_row_11 : decode cX0_row 11 = .ok (.if_icmp .lt 13, 3) := by decide +kernel
theorem dX0_row_14 : decode cX0_row 14 = .ok (.new 63, 3) := by decide +kernel
theorem dX0_row_17 : decode cX0_row 17 = .ok (.dup, 1) := by decide +kernel
theorem dX0_row_18 : decode cX0_row 18 = .ok (.ldc 79, 2) := by decide +kernel
theorem dX0_row_20 : decode cX0_row 20 = .ok (.invokespecial 67, 3) := by decide +kernel
theorem dX0_row_23 : decode cX0_row 23 = .ok (.athrow, 1) := by decide +kernel
theorem dX0_row_24 : decode cX0_row 24 = .ok (.aload_n 0, 1) := by decide +kernel
theorem dX0_row_25 : decode cX0_row 25 = .ok (.getfield 42, 3) := by decide +kernel
theorem dX0_row_28 : decode cX0_row 28 = .ok (.iload_n 1, 1) := by decide +kernel
theorem dX0_row_29 : decode cX0_row 29 = .ok (.iaload, 1) := by decide +kernel
theorem dX0_row_30 : decode cX0_row 30 = .ok (.ireturn, 1) := by decide +kernel
theorem dX0_blocks_0 : decode cX0_blocks 0 = .ok (.iconst 0, 1) := by decide +kernel
theorem dX0_blocks_1 : decode cX0_blocks 1 = .ok (.istore_n 1, 1) := by decide +kernel
theorem dX0_blocks_2 : decode cX0_blocks 2 = .ok (.iconst 0, 1) := by decide +kernel
theorem dX0_blocks_3 : decode cX0_blocks 3 = .ok (.istore_n 2, 1) := by decide +kernel
theorem dX0_blocks_4 : decode cX0_blocks 4 = .ok (.iload_n 2, 1) := by decide +kernel
theorem dX0_blocks_5 : decode cX0_blocks 5 = .ok (.aload_n 0, 1) := by decide +kernel
theorem dX0_blocks_6 : decode cX0_blocks 6 = .ok (.invokevirtual 81, 3) := by decide +kernel
theorem dX0_blocks_9 : decode cX0_blocks 9 = .ok (.if_icmp .ge 20, 3) := by decide +kernel
theorem dX0_blocks_12 : decode cX0_blocks 12 = .ok (.aload_n 0, 1) := by decide +kernel
theorem dX0_blocks_13 : decode cX0_blocks 13 = .ok (.iload_n 2, 1) := by decide +kernel
theorem dX0_blocks_14 : decode cX0_blocks 14 = .ok (.invokevirtual 84, 3) := by decide +kernel
theorem dX0_blocks_17 : decode cX0_blocks 17 = .ok (.ifCond .ne 6, 3) := by decide +kernel
theorem dX0_blocks_20 : decode cX0_blocks 20 = .ok (.iinc 1 1, 3) := by decide +kernel
theorem dX0_blocks_23 : decode cX0_blocks 23 = .ok (.iinc 2 1, 3) := by decide +kernel
theorem dX0_blocks_26 : decode cX0_blocks 26 = .ok (.goto (-22), 3) := by decide +kernel
theorem dX0_blocks_29 : decode cX0_blocks 29 = .ok (.iload_n 1, 1) := by decide +kernel
theorem dX0_blocks_30 : decode cX0_blocks 30 = .ok (.ireturn, 1) := by decide +kernel
theorem dX0_sum_0 : decode cX0_sum 0 = .ok (.iload_n 1, 1) := by decide +kernel
theorem dX0_sum_1 : decode cX0_sum 1 = .ok (.invokestatic 60, 3) := by decide +kernel
theorem dX0_sum_4 : decode cX0_sum 4 = .ok (.aload_n 0, 1) := by decide +kernel
theorem dX0_sum_5 : decode cX0_sum 5 = .ok (.invokevirtual 75, 3) := by decide +kernel
theorem dX0_sum_8 : decode cX0_sum 8 = .ok (.istore_n 2, 1) := by decide +kernel
theorem dX0_sum_9 : decode cX0_sum 9 = .ok (.aload_n 0, 1) := by decide +kernel
theorem dX0_sum_10 : decode cX0_sum 10 = .ok (.iload_n 1, 1) := by decide +kernel
theorem dX0_sum_11 : decode cX0_sum 11 = .ok (.iconst 0, 1) := by decide +kernel
theorem dX0_sum_12 : decode cX0_sum 12 = .ok (.iload_n 2, 1) := by decide +kernel
theorem dX0_sum_13 : decode cX0_sum 13 = .ok (.invokevirtual 88, 3) := by decide +kernel
theorem dX0_sum_16 : decode cX0_sum 16 = .ok (.lreturn, 1) := by decide +kernel
theorem dX0_bound_0 : decode cX0_bound 0 = .ok (.iload_n 1, 1) := by decide +kernel
theorem dX0_bound_1 : decode cX0_bound 1 = .ok (.invokestatic 60, 3) := by decide +kernel
theorem dX0_bound_4 : decode cX0_bound 4 = .ok (.aload_n 0, 1) := by decide +kernel
theorem dX0_bound_5 : decode cX0_bound 5 = .ok (.invokevirtual 75, 3) := by decide +kernel
theorem dX0_bound_8 : decode cX0_bound 8 = .ok (.istore_n 3, 1) := by decide +kernel
theorem dX0_bound_9 : decode cX0_bound 9 = .ok (.iload_n 3, 1) := by decide +kernel
theorem dX0_bound_10 : decode cX0_bound 10 = .ok (.ifCond .ne 13, 3) := by decide +kernel
theorem dX0_bound_13 : decode cX0_bound 13 = .ok (.new 92, 3) := by decide +kernel
theorem dX0_bound_16 : decode cX0_bound 16 = .ok (.dup, 1) := by decide +kernel
theorem dX0_bound_17 : decode cX0_bound 17 = .ok (.ldc 94, 2) := by decide +kernel
theorem dX0_bound_19 : decode cX0_bound 19 = .ok (.invokespecial 96, 3) := by decide +kernel
theorem dX0_bound_22 : decode cX0_bound 22 = .ok (.athrow, 1) := by decide +kernel
theorem dX0_bound_23 : decode cX0_bound 23 = .ok (.aload_n 0, 1) := by decide +kernel
theorem dX0_bound_24 : decode cX0_bound 24 = .ok (.iload_n 1, 1) := by decide +kernel
theorem dX0_bound_25 : decode cX0_bound 25 = .ok (.iload_n 2, 1) := by decide +kernel
theorem dX0_bound_26 : decode cX0_bound 26 = .ok (.iconst 0, 1) := by decide +kernel
theorem dX0_bound_27 : decode cX0_bound 27 = .ok (.iload_n 3, 1) := by decide +kernel
theorem dX0_bound_28 : decode cX0_bound 28 = .ok (.invokevirtual 97, 3) := by decide +kernel
theorem dX0_bound_31 : decode cX0_bound 31 = .ok (.lreturn, 1) := by decide +kernel
theorem dX0_ranked_0 : decode cX0_ranked 0 = .ok (.iload_n 1, 1) := by decide +kernel
theorem dX0_ranked_1 : decode cX0_ranked 1 = .ok (.invokestatic 60, 3) := by decide +kernel
theorem dX0_ranked_4 : decode cX0_ranked 4 = .ok (.aload_n 0, 1) := by decide +kernel
theorem dX0_ranked_5 : decode cX0_ranked 5 = .ok (.invokevirtual 75, 3) := by decide +kernel
theorem dX0_ranked_8 : decode cX0_ranked 8 = .ok (.istore_n 3, 1) := by decide +kernel
theorem dX0_ranked_9 : decode cX0_ranked 9 = .ok (.iload_n 2, 1) := by decide +kernel
theorem dX0_ranked_10 : decode cX0_ranked 10 = .ok (.ifCond .lt 8, 3) := by decide +kernel
theorem dX0_ranked_13 : decode cX0_ranked 13 = .ok (.iload_n 2, 1) := by decide +kernel
theorem dX0_ranked_14 : decode cX0_ranked 14 = .ok (.iload_n 3, 1) := by decide +kernel
theorem dX0_ranked_15 : decode cX0_ranked 15 = .ok (.if_icmp .lt 13, 3) := by decide +kernel
theorem dX0_ranked_18 : decode cX0_ranked 18 = .ok (.new 63, 3) := by decide +kernel
theorem dX0_ranked_21 : decode cX0_ranked 21 = .ok (.dup, 1) := by decide +kernel
theorem dX0_ranked_22 : decode cX0_ranked 22 = .ok (.ldc 79, 2) := by decide +kernel
theorem dX0_ranked_24 : decode cX0_ranked 24 = .ok (.invokespecial 67, 3) := by decide +kernel
theorem dX0_ranked_27 : decode cX0_ranked 27 = .ok (.athrow, 1) := by decide +kernel
theorem dX0_ranked_28 : decode cX0_ranked 28 = .ok (.aload_n 0, 1) := by decide +kernel
theorem dX0_ranked_29 : decode cX0_ranked 29 = .ok (.iload_n 3, 1) := by decide +kernel
theorem dX0_ranked_30 : decode cX0_ranked 30 = .ok (.iload_n 1, 1) := by decide +kernel
theorem dX0_ranked_31 : decode cX0_ranked 31 = .ok (.iconst 1, 1) := by decide +kernel
theorem dX0_ranked_32 : decode cX0_ranked 32 = .ok (.invokevirtual 101, 3) := by decide +kernel
theorem dX0_ranked_35 : decode cX0_ranked 35 = .ok (.aload_n 0, 1) := by decide +kernel
theorem dX0_ranked_36 : decode cX0_ranked 36 = .ok (.getfield 42, 3) := by decide +kernel
theorem dX0_ranked_39 : decode cX0_ranked 39 = .ok (.iload_n 2, 1) := by decide +kernel
theorem dX0_ranked_40 : decode cX0_ranked 40 = .ok (.iaload, 1) := by decide +kernel
theorem dX0_ranked_41 : decode cX0_ranked 41 = .ok (.ireturn, 1) := by decide +kernel
theorem dX0_groups_0 : decode cX0_groups 0 = .ok (.iload_n 1, 1) := by decide +kernel
theorem dX0_groups_1 : decode cX0_groups 1 = .ok (.invokestatic 60, 3) := by decide +kernel
theorem dX0_groups_4 : decode cX0_groups 4 = .ok (.aload_n 0, 1) := by decide +kernel
theorem dX0_groups_5 : decode cX0_groups 5 = .ok (.invokevirtual 75, 3) := by decide +kernel
theorem dX0_groups_8 : decode cX0_groups 8 = .ok (.istore_n 2, 1) := by decide +kernel
theorem dX0_groups_9 : decode cX0_groups 9 = .ok (.aload_n 0, 1) := by decide +kernel
theorem dX0_groups_10 : decode cX0_groups 10 = .ok (.iload_n 2, 1) := by decide +kernel
theorem dX0_groups_11 : decode cX0_groups 11 = .ok (.iload_n 1, 1) := by decide +kernel
theorem dX0_groups_12 : decode cX0_groups 12 = .ok (.iconst 0, 1) := by decide +kernel
theorem dX0_groups_13 : decode cX0_groups 13 = .ok (.invokevirtual 101, 3) := by decide +kernel
theorem dX0_groups_16 : decode cX0_groups 16 = .ok (.iconst 0, 1) := by decide +kernel
theorem dX0_groups_17 : decode cX0_groups 17 = .ok (.istore_n 3, 1) := by decide +kernel
theorem dX0_groups_18 : decode cX0_groups 18 = .ok (.iconst 0, 1) := by decide +kernel
theorem dX0_groups_19 : decode cX0_groups 19 = .ok (.istore 4, 2) := by decide +kernel
theorem dX0_groups_21 : decode cX0_groups 21 = .ok (.iload 4, 2) := by decide +kernel
theorem dX0_groups_23 : decode cX0_groups 23 = .ok (.iload_n 2, 1) := by decide +kernel
theorem dX0_groups_24 : decode cX0_groups 24 = .ok (.if_icmp .ge 22, 3) := by decide +kernel
theorem dX0_groups_27 : decode cX0_groups 27 = .ok (.aload_n 0, 1) := by decide +kernel
theorem dX0_groups_28 : decode cX0_groups 28 = .ok (.iload 4, 2) := by decide +kernel
theorem dX0_groups_30 : decode cX0_groups 30 = .ok (.iload_n 1, 1) := by decide +kernel
theorem dX0_groups_31 : decode cX0_groups 31 = .ok (.invokevirtual 105, 3) := by decide +kernel
theorem dX0_groups_34 : decode cX0_groups 34 = .ok (.ifCond .eq 6, 3) := by decide +kernel
theorem dX0_groups_37 : decode cX0_groups 37 = .ok (.iinc 3 1, 3) := by decide +kernel
theorem dX0_groups_40 : decode cX0_groups 40 = .ok (.iinc 4 1, 3) := by decide +kernel
theorem dX0_groups_43 : decode cX0_groups 43 = .ok (.goto (-22), 3) := by decide +kernel
theorem dX0_groups_46 : decode cX0_groups 46 = .ok (.iload_n 3, 1) := by decide +kernel
theorem dX0_groups_47 : decode cX0_groups 47 = .ok (.ireturn, 1) := by decide +kernel
theorem dX0_group_0 : decode cX0_group 0 = .ok (.iload_n 1, 1) := by decide +kernel
theorem dX0_group_1 : decode cX0_group 1 = .ok (.invokestatic 60, 3) := by decide +kernel
theorem dX0_group_4 : decode cX0_group 4 = .ok (.iload 4, 2) := by decide +kernel
theorem dX0_group_6 : decode cX0_group 6 = .ok (.invokestatic 60, 3) := by decide +kernel
theorem dX0_group_9 : decode cX0_group 9 = .ok (.iload_n 3, 1) := by decide +kernel
theorem dX0_group_10 : decode cX0_group 10 = .ok (.ifCond .lt 8, 3) := by decide +kernel
theorem dX0_group_13 : decode cX0_group 13 = .ok (.iload_n 3, 1) := by decide +kernel
theorem dX0_group_14 : decode cX0_group 14 = .ok (.iconst 4, 1) := by decide +kernel
theorem dX0_group_15 : decode cX0_group 15 = .ok (.if_icmp .le 13, 3) := by decide +kernel
theorem dX0_group_18 : decode cX0_group 18 = .ok (.new 68, 3) := by decide +kernel
theorem dX0_group_21 : decode cX0_group 21 = .ok (.dup, 1) := by decide +kernel
theorem dX0_group_22 : decode cX0_group 22 = .ok (.ldc 109, 2) := by decide +kernel
theorem dX0_group_24 : decode cX0_group 24 = .ok (.invokespecial 72, 3) := by decide +kernel
theorem dX0_group_27 : decode cX0_group 27 = .ok (.athrow, 1) := by decide +kernel
theorem dX0_group_28 : decode cX0_group 28 = .ok (.aload_n 0, 1) := by decide +kernel
theorem dX0_group_29 : decode cX0_group 29 = .ok (.invokevirtual 75, 3) := by decide +kernel
theorem dX0_group_32 : decode cX0_group 32 = .ok (.istore 5, 2) := by decide +kernel
theorem dX0_group_34 : decode cX0_group 34 = .ok (.aload_n 0, 1) := by decide +kernel
theorem dX0_group_35 : decode cX0_group 35 = .ok (.iload 5, 2) := by decide +kernel
theorem dX0_group_37 : decode cX0_group 37 = .ok (.iload_n 1, 1) := by decide +kernel
theorem dX0_group_38 : decode cX0_group 38 = .ok (.iconst 0, 1) := by decide +kernel
theorem dX0_group_39 : decode cX0_group 39 = .ok (.invokevirtual 101, 3) := by decide +kernel
theorem dX0_group_42 : decode cX0_group 42 = .ok (.aload_n 0, 1) := by decide +kernel
theorem dX0_group_43 : decode cX0_group 43 = .ok (.iload_n 2, 1) := by decide +kernel
theorem dX0_group_44 : decode cX0_group 44 = .ok (.iload_n 1, 1) := by decide +kernel
theorem dX0_group_45 : decode cX0_group 45 = .ok (.iload 5, 2) := by decide +kernel
theorem dX0_group_47 : decode cX0_group 47 = .ok (.invokevirtual 111, 3) := by decide +kernel
theorem dX0_group_50 : decode cX0_group 50 = .ok (.istore 6, 2) := by decide +kernel
theorem dX0_group_52 : decode cX0_group 52 = .ok (.iload 6, 2) := by decide +kernel
theorem dX0_group_54 : decode cX0_group 54 = .ok (.ifCond .ge 13, 3) := by decide +kernel
theorem dX0_group_57 : decode cX0_group 57 = .ok (.new 63, 3) := by decide +kernel
theorem dX0_group_60 : decode cX0_group 60 = .ok (.dup, 1) := by decide +kernel
theorem dX0_group_61 : decode cX0_group 61 = .ok (.ldc 115, 2) := by decide +kernel
theorem dX0_group_63 : decode cX0_group 63 = .ok (.invokespecial 67, 3) := by decide +kernel
theorem dX0_group_66 : decode cX0_group 66 = .ok (.athrow, 1) := by decide +kernel
theorem dX0_group_67 : decode cX0_group 67 = .ok (.aload_n 0, 1) := by decide +kernel
theorem dX0_group_68 : decode cX0_group 68 = .ok (.iload 6, 2) := by decide +kernel
theorem dX0_group_70 : decode cX0_group 70 = .ok (.iload_n 1, 1) := by decide +kernel
theorem dX0_group_71 : decode cX0_group 71 = .ok (.iload 5, 2) := by decide +kernel
theorem dX0_group_73 : decode cX0_group 73 = .ok (.invokevirtual 117, 3) := by decide +kernel
theorem dX0_group_76 : decode cX0_group 76 = .ok (.istore 7, 2) := by decide +kernel
theorem dX0_group_78 : decode cX0_group 78 = .ok (.iload_n 3, 1) := by decide +kernel
theorem dX0_group_79 : decode cX0_group 79 = .ok (.tableswitch 76 0 3 #[29, 46, 53, 64], 29) := by decide +kernel
theorem dX0_group_108 : decode cX0_group 108 = .ok (.aload_n 0, 1) := by decide +kernel
theorem dX0_group_109 : decode cX0_group 109 = .ok (.getfield 9, 3) := by decide +kernel
theorem dX0_group_112 : decode cX0_group 112 = .ok (.aload_n 0, 1) := by decide +kernel
theorem dX0_group_113 : decode cX0_group 113 = .ok (.getfield 42, 3) := by decide +kernel
theorem dX0_group_116 : decode cX0_group 116 = .ok (.iload 6, 2) := by decide +kernel
theorem dX0_group_118 : decode cX0_group 118 = .ok (.iaload, 1) := by decide +kernel
theorem dX0_group_119 : decode cX0_group 119 = .ok (.iload_n 1, 1) := by decide +kernel
theorem dX0_group_120 : decode cX0_group 120 = .ok (.invokestatic 52, 3) := by decide +kernel
theorem dX0_group_123 : decode cX0_group 123 = .ok (.laload, 1) := by decide +kernel
theorem dX0_group_124 : decode cX0_group 124 = .ok (.lreturn, 1) := by decide +kernel
theorem dX0_group_125 : decode cX0_group 125 = .ok (.iload 7, 2) := by decide +kernel
theorem dX0_group_127 : decode cX0_group 127 = .ok (.iload 6, 2) := by decide +kernel
theorem dX0_group_129 : decode cX0_group 129 = .ok (.isub, 1) := by decide +kernel
theorem dX0_group_130 : decode cX0_group 130 = .ok (.i2l, 1) := by decide +kernel
theorem dX0_group_131 : decode cX0_group 131 = .ok (.lreturn, 1) := by decide +kernel
theorem dX0_group_132 : decode cX0_group 132 = .ok (.aload_n 0, 1) := by decide +kernel
theorem dX0_group_133 : decode cX0_group 133 = .ok (.iload 4, 2) := by decide +kernel
theorem dX0_group_135 : decode cX0_group 135 = .ok (.iload 6, 2) := by decide +kernel
theorem dX0_group_137 : decode cX0_group 137 = .ok (.iload 7, 2) := by decide +kernel
theorem dX0_group_139 : decode cX0_group 139 = .ok (.invokevirtual 88, 3) := by decide +kernel
theorem dX0_group_142 : decode cX0_group 142 = .ok (.lreturn, 1) := by decide +kernel
theorem dX0_group_143 : decode cX0_group 143 = .ok (.aload_n 0, 1) := by decide +kernel
theorem dX0_group_144 : decode cX0_group 144 = .ok (.iload 4, 2) := by decide +kernel
theorem dX0_group_146 : decode cX0_group 146 = .ok (.iconst 0, 1) := by decide +kernel
theorem dX0_group_147 : decode cX0_group 147 = .ok (.iload 6, 2) := by decide +kernel
theorem dX0_group_149 : decode cX0_group 149 = .ok (.iload 7, 2) := by decide +kernel
theorem dX0_group_151 : decode cX0_group 151 = .ok (.invokevirtual 97, 3) := by decide +kernel
theorem dX0_group_154 : decode cX0_group 154 = .ok (.lreturn, 1) := by decide +kernel
theorem dX0_group_155 : decode cX0_group 155 = .ok (.aload_n 0, 1) := by decide +kernel
theorem dX0_group_156 : decode cX0_group 156 = .ok (.iload 4, 2) := by decide +kernel
theorem dX0_group_158 : decode cX0_group 158 = .ok (.iconst 1, 1) := by decide +kernel
theorem dX0_group_159 : decode cX0_group 159 = .ok (.iload 6, 2) := by decide +kernel
theorem dX0_group_161 : decode cX0_group 161 = .ok (.iload 7, 2) := by decide +kernel
theorem dX0_group_163 : decode cX0_group 163 = .ok (.invokevirtual 97, 3) := by decide +kernel
theorem dX0_group_166 : decode cX0_group 166 = .ok (.lreturn, 1) := by decide +kernel
theorem dX0_pairs_0 : decode cX0_pairs 0 = .ok (.iload_n 1, 1) := by decide +kernel
theorem dX0_pairs_1 : decode cX0_pairs 1 = .ok (.invokestatic 60, 3) := by decide +kernel
theorem dX0_pairs_4 : decode cX0_pairs 4 = .ok (.iload_n 2, 1) := by decide +kernel
theorem dX0_pairs_5 : decode cX0_pairs 5 = .ok (.invokestatic 60, 3) := by decide +kernel
theorem dX0_pairs_8 : decode cX0_pairs 8 = .ok (.aload_n 0, 1) := by decide +kernel
theorem dX0_pairs_9 : decode cX0_pairs 9 = .ok (.invokevirtual 75, 3) := by decide +kernel
theorem dX0_pairs_12 : decode cX0_pairs 12 = .ok (.istore_n 3, 1) := by decide +kernel
theorem dX0_pairs_13 : decode cX0_pairs 13 = .ok (.iconst 0, 1) := by decide +kernel
theorem dX0_pairs_14 : decode cX0_pairs 14 = .ok (.istore 4, 2) := by decide +kernel
theorem dX0_pairs_16 : decode cX0_pairs 16 = .ok (.iconst 1, 1) := by decide +kernel
theorem dX0_pairs_17 : decode cX0_pairs 17 = .ok (.istore 5, 2) := by decide +kernel
theorem dX0_pairs_19 : decode cX0_pairs 19 = .ok (.iload 5, 2) := by decide +kernel
theorem dX0_pairs_21 : decode cX0_pairs 21 = .ok (.iload_n 3, 1) := by decide +kernel
theorem dX0_pairs_22 : decode cX0_pairs 22 = .ok (.if_icmp .ge 68, 3) := by decide +kernel
theorem dX0_pairs_25 : decode cX0_pairs 25 = .ok (.aload_n 0, 1) := by decide +kernel
theorem dX0_pairs_26 : decode cX0_pairs 26 = .ok (.getfield 9, 3) := by decide +kernel
theorem dX0_pairs_29 : decode cX0_pairs 29 = .ok (.aload_n 0, 1) := by decide +kernel
theorem dX0_pairs_30 : decode cX0_pairs 30 = .ok (.getfield 42, 3) := by decide +kernel
theorem dX0_pairs_33 : decode cX0_pairs 33 = .ok (.iload 5, 2) := by decide +kernel
theorem dX0_pairs_35 : decode cX0_pairs 35 = .ok (.iaload, 1) := by decide +kernel
theorem dX0_pairs_36 : decode cX0_pairs 36 = .ok (.iload_n 2, 1) := by decide +kernel
theorem dX0_pairs_37 : decode cX0_pairs 37 = .ok (.invokestatic 52, 3) := by decide +kernel
theorem dX0_pairs_40 : decode cX0_pairs 40 = .ok (.laload, 1) := by decide +kernel
theorem dX0_pairs_41 : decode cX0_pairs 41 = .ok (.lstore 6, 2) := by decide +kernel
theorem dX0_pairs_43 : decode cX0_pairs 43 = .ok (.iconst 0, 1) := by decide +kernel
theorem dX0_pairs_44 : decode cX0_pairs 44 = .ok (.istore 8, 2) := by decide +kernel
theorem dX0_pairs_46 : decode cX0_pairs 46 = .ok (.iload 8, 2) := by decide +kernel
theorem dX0_pairs_48 : decode cX0_pairs 48 = .ok (.iload 5, 2) := by decide +kernel
theorem dX0_pairs_50 : decode cX0_pairs 50 = .ok (.if_icmp .ge 34, 3) := by decide +kernel
theorem dX0_pairs_53 : decode cX0_pairs 53 = .ok (.aload_n 0, 1) := by decide +kernel
theorem dX0_pairs_54 : decode cX0_pairs 54 = .ok (.getfield 9, 3) := by decide +kernel
theorem dX0_pairs_57 : decode cX0_pairs 57 = .ok (.aload_n 0, 1) := by decide +kernel
theorem dX0_pairs_58 : decode cX0_pairs 58 = .ok (.getfield 42, 3) := by decide +kernel
theorem dX0_pairs_61 : decode cX0_pairs 61 = .ok (.iload 8, 2) := by decide +kernel
theorem dX0_pairs_63 : decode cX0_pairs 63 = .ok (.iaload, 1) := by decide +kernel
theorem dX0_pairs_64 : decode cX0_pairs 64 = .ok (.iload_n 1, 1) := by decide +kernel
theorem dX0_pairs_65 : decode cX0_pairs 65 = .ok (.invokestatic 52, 3) := by decide +kernel
theorem dX0_pairs_68 : decode cX0_pairs 68 = .ok (.laload, 1) := by decide +kernel
theorem dX0_pairs_69 : decode cX0_pairs 69 = .ok (.lload 6, 2) := by decide +kernel
theorem dX0_pairs_71 : decode cX0_pairs 71 = .ok (.lcmp, 1) := by decide +kernel
theorem dX0_pairs_72 : decode cX0_pairs 72 = .ok (.ifCond .ne 6, 3) := by decide +kernel
theorem dX0_pairs_75 : decode cX0_pairs 75 = .ok (.iinc 4 1, 3) := by decide +kernel
theorem dX0_pairs_78 : decode cX0_pairs 78 = .ok (.iinc 8 1, 3) := by decide +kernel
theorem dX0_pairs_81 : decode cX0_pairs 81 = .ok (.goto (-35), 3) := by decide +kernel
theorem dX0_pairs_84 : decode cX0_pairs 84 = .ok (.iinc 5 1, 3) := by decide +kernel
theorem dX0_pairs_87 : decode cX0_pairs 87 = .ok (.goto (-68), 3) := by decide +kernel
theorem dX0_pairs_90 : decode cX0_pairs 90 = .ok (.iload 4, 2) := by decide +kernel
theorem dX0_pairs_92 : decode cX0_pairs 92 = .ok (.ireturn, 1) := by decide +kernel
theorem dX0_way_0 : decode cX0_way 0 = .ok (.iload_n 2, 1) := by decide +kernel
theorem dX0_way_1 : decode cX0_way 1 = .ok (.invokestatic 60, 3) := by decide +kernel
theorem dX0_way_4 : decode cX0_way 4 = .ok (.aload_n 0, 1) := by decide +kernel
theorem dX0_way_5 : decode cX0_way 5 = .ok (.iload_n 1, 1) := by decide +kernel
theorem dX0_way_6 : decode cX0_way 6 = .ok (.invokevirtual 120, 3) := by decide +kernel
theorem dX0_way_9 : decode cX0_way 9 = .ok (.aload_n 0, 1) := by decide +kernel
theorem dX0_way_10 : decode cX0_way 10 = .ok (.getfield 36, 3) := by decide +kernel
theorem dX0_way_13 : decode cX0_way 13 = .ok (.iload_n 1, 1) := by decide +kernel
theorem dX0_way_14 : decode cX0_way 14 = .ok (.iload_n 2, 1) := by decide +kernel
theorem dX0_way_15 : decode cX0_way 15 = .ok (.invokestatic 123, 3) := by decide +kernel
theorem dX0_way_18 : decode cX0_way 18 = .ok (.iaload, 1) := by decide +kernel
theorem dX0_way_19 : decode cX0_way 19 = .ok (.ireturn, 1) := by decide +kernel
theorem dX0_bits_0 : decode cX0_bits 0 = .ok (.iload_n 2, 1) := by decide +kernel
theorem dX0_bits_1 : decode cX0_bits 1 = .ok (.invokestatic 60, 3) := by decide +kernel
theorem dX0_bits_4 : decode cX0_bits 4 = .ok (.aload_n 0, 1) := by decide +kernel
theorem dX0_bits_5 : decode cX0_bits 5 = .ok (.iload_n 1, 1) := by decide +kernel
theorem dX0_bits_6 : decode cX0_bits 6 = .ok (.invokevirtual 120, 3) := by decide +kernel
theorem dX0_bits_9 : decode cX0_bits 9 = .ok (.aload_n 0, 1) := by decide +kernel
theorem dX0_bits_10 : decode cX0_bits 10 = .ok (.getfield 39, 3) := by decide +kernel
theorem dX0_bits_13 : decode cX0_bits 13 = .ok (.iload_n 1, 1) := by decide +kernel
theorem dX0_bits_14 : decode cX0_bits 14 = .ok (.iload_n 2, 1) := by decide +kernel
theorem dX0_bits_15 : decode cX0_bits 15 = .ok (.invokestatic 123, 3) := by decide +kernel
theorem dX0_bits_18 : decode cX0_bits 18 = .ok (.iaload, 1) := by decide +kernel
theorem dX0_bits_19 : decode cX0_bits 19 = .ok (.ireturn, 1) := by decide +kernel
theorem dX0_purge_0 : decode cX0_purge 0 = .ok (.aload_n 0, 1) := by decide +kernel
theorem dX0_purge_1 : decode cX0_purge 1 = .ok (.invokevirtual 75, 3) := by decide +kernel
theorem dX0_purge_4 : decode cX0_purge 4 = .ok (.istore_n 1, 1) := by decide +kernel
theorem dX0_purge_5 : decode cX0_purge 5 = .ok (.iconst 0, 1) := by decide +kernel
theorem dX0_purge_6 : decode cX0_purge 6 = .ok (.istore_n 2, 1) := by decide +kernel
theorem dX0_purge_7 : decode cX0_purge 7 = .ok (.iconst 0, 1) := by decide +kernel
theorem dX0_purge_8 : decode cX0_purge 8 = .ok (.istore_n 3, 1) := by decide +kernel
theorem dX0_purge_9 : decode cX0_purge 9 = .ok (.iconst 0, 1) := by decide +kernel
theorem dX0_purge_10 : decode cX0_purge 10 = .ok (.istore 4, 2) := by decide +kernel
theorem dX0_purge_12 : decode cX0_purge 12 = .ok (.iload 4, 2) := by decide +kernel
theorem dX0_purge_14 : decode cX0_purge 14 = .ok (.aload_n 0, 1) := by decide +kernel
theorem dX0_purge_15 : decode cX0_purge 15 = .ok (.getfield 13, 3) := by decide +kernel
theorem dX0_purge_18 : decode cX0_purge 18 = .ok (.if_icmp .ge 41, 3) := by decide +kernel
theorem dX0_purge_21 : decode cX0_purge 21 = .ok (.iload_n 3, 1) := by decide +kernel
theorem dX0_purge_22 : decode cX0_purge 22 = .ok (.iload_n 1, 1) := by decide +kernel
theorem dX0_purge_23 : decode cX0_purge 23 = .ok (.if_icmp .ge 20, 3) := by decide +kernel
theorem dX0_purge_26 : decode cX0_purge 26 = .ok (.aload_n 0, 1) := by decide +kernel
theorem dX0_purge_27 : decode cX0_purge 27 = .ok (.getfield 42, 3) := by decide +kernel
theorem dX0_purge_30 : decode cX0_purge 30 = .ok (.iload_n 3, 1) := by decide +kernel
theorem dX0_purge_31 : decode cX0_purge 31 = .ok (.iaload, 1) := by decide +kernel
theorem dX0_purge_32 : decode cX0_purge 32 = .ok (.iload 4, 2) := by decide +kernel
theorem dX0_purge_34 : decode cX0_purge 34 = .ok (.if_icmp .ne 9, 3) := by decide +kernel
theorem dX0_purge_37 : decode cX0_purge 37 = .ok (.iinc 3 1, 3) := by decide +kernel
theorem dX0_purge_40 : decode cX0_purge 40 = .ok (.goto 13, 3) := by decide +kernel
theorem dX0_purge_43 : decode cX0_purge 43 = .ok (.aload_n 0, 1) := by decide +kernel
theorem dX0_purge_44 : decode cX0_purge 44 = .ok (.iload 4, 2) := by decide +kernel
theorem dX0_purge_46 : decode cX0_purge 46 = .ok (.iload_n 2, 1) := by decide +kernel
theorem dX0_purge_47 : decode cX0_purge 47 = .ok (.invokevirtual 126, 3) := by decide +kernel
theorem dX0_purge_50 : decode cX0_purge 50 = .ok (.iinc 2 1, 3) := by decide +kernel
theorem dX0_purge_53 : decode cX0_purge 53 = .ok (.iinc 4 1, 3) := by decide +kernel
theorem dX0_purge_56 : decode cX0_purge 56 = .ok (.goto (-44), 3) := by decide +kernel
theorem dX0_purge_59 : decode cX0_purge 59 = .ok (.aload_n 0, 1) := by decide +kernel
theorem dX0_purge_60 : decode cX0_purge 60 = .ok (.iload_n 2, 1) := by decide +kernel
theorem dX0_purge_61 : decode cX0_purge 61 = .ok (.putfield 13, 3) := by decide +kernel
theorem dX0_purge_64 : decode cX0_purge 64 = .ok (.aload_n 0, 1) := by decide +kernel
theorem dX0_purge_65 : decode cX0_purge 65 = .ok (.invokevirtual 130, 3) := by decide +kernel
theorem dX0_purge_68 : decode cX0_purge 68 = .ok (.iload_n 1, 1) := by decide +kernel
theorem dX0_purge_69 : decode cX0_purge 69 = .ok (.ireturn, 1) := by decide +kernel
theorem dX0_refuseBadColumn_0 : decode cX0_refuseBadColumn 0 = .ok (.iload_n 0, 1) := by decide +kernel
theorem dX0_refuseBadColumn_1 : decode cX0_refuseBadColumn 1 = .ok (.ifCond .lt 8, 3) := by decide +kernel
theorem dX0_refuseBadColumn_4 : decode cX0_refuseBadColumn 4 = .ok (.iload_n 0, 1) := by decide +kernel
theorem dX0_refuseBadColumn_5 : decode cX0_refuseBadColumn 5 = .ok (.iconst 4, 1) := by decide +kernel
theorem dX0_refuseBadColumn_6 : decode cX0_refuseBadColumn 6 = .ok (.if_icmp .lt 13, 3) := by decide +kernel
theorem dX0_refuseBadColumn_9 : decode cX0_refuseBadColumn 9 = .ok (.new 68, 3) := by decide +kernel
theorem dX0_refuseBadColumn_12 : decode cX0_refuseBadColumn 12 = .ok (.dup, 1) := by decide +kernel
theorem dX0_refuseBadColumn_13 : decode cX0_refuseBadColumn 13 = .ok (.ldc 133, 2) := by decide +kernel
theorem dX0_refuseBadColumn_15 : decode cX0_refuseBadColumn 15 = .ok (.invokespecial 72, 3) := by decide +kernel
theorem dX0_refuseBadColumn_18 : decode cX0_refuseBadColumn 18 = .ok (.athrow, 1) := by decide +kernel
theorem dX0_refuseBadColumn_19 : decode cX0_refuseBadColumn 19 = .ok (.return_, 1) := by decide +kernel
theorem dX0_refuseUnpackedBlock_0 : decode cX0_refuseUnpackedBlock 0 = .ok (.iload_n 1, 1) := by decide +kernel
theorem dX0_refuseUnpackedBlock_1 : decode cX0_refuseUnpackedBlock 1 = .ok (.ifCond .lt 11, 3) := by decide +kernel
theorem dX0_refuseUnpackedBlock_4 : decode cX0_refuseUnpackedBlock 4 = .ok (.iload_n 1, 1) := by decide +kernel
theorem dX0_refuseUnpackedBlock_5 : decode cX0_refuseUnpackedBlock 5 = .ok (.aload_n 0, 1) := by decide +kernel
theorem dX0_refuseUnpackedBlock_6 : decode cX0_refuseUnpackedBlock 6 = .ok (.invokevirtual 135, 3) := by decide +kernel
theorem dX0_refuseUnpackedBlock_9 : decode cX0_refuseUnpackedBlock 9 = .ok (.if_icmp .lt 13, 3) := by decide +kernel
theorem dX0_refuseUnpackedBlock_12 : decode cX0_refuseUnpackedBlock 12 = .ok (.new 63, 3) := by decide +kernel
theorem dX0_refuseUnpackedBlock_15 : decode cX0_refuseUnpackedBlock 15 = .ok (.dup, 1) := by decide +kernel
theorem dX0_refuseUnpackedBlock_16 : decode cX0_refuseUnpackedBlock 16 = .ok (.ldc 138, 2) := by decide +kernel
theorem dX0_refuseUnpackedBlock_18 : decode cX0_refuseUnpackedBlock 18 = .ok (.invokespecial 67, 3) := by decide +kernel
theorem dX0_refuseUnpackedBlock_21 : decode cX0_refuseUnpackedBlock 21 = .ok (.athrow, 1) := by decide +kernel
theorem dX0_refuseUnpackedBlock_22 : decode cX0_refuseUnpackedBlock 22 = .ok (.return_, 1) := by decide +kernel
theorem dX0_spot_0 : decode cX0_spot 0 = .ok (.iload_n 1, 1) := by decide +kernel
theorem dX0_spot_1 : decode cX0_spot 1 = .ok (.sipush 128, 3) := by decide +kernel
theorem dX0_spot_4 : decode cX0_spot 4 = .ok (.imul, 1) := by decide +kernel
theorem dX0_spot_5 : decode cX0_spot 5 = .ok (.iload_n 0, 1) := by decide +kernel
theorem dX0_spot_6 : decode cX0_spot 6 = .ok (.iadd, 1) := by decide +kernel
theorem dX0_spot_7 : decode cX0_spot 7 = .ok (.ireturn, 1) := by decide +kernel
theorem dX0_place_0 : decode cX0_place 0 = .ok (.iload_n 0, 1) := by decide +kernel
theorem dX0_place_1 : decode cX0_place 1 = .ok (.iconst 4, 1) := by decide +kernel
theorem dX0_place_2 : decode cX0_place 2 = .ok (.imul, 1) := by decide +kernel
theorem dX0_place_3 : decode cX0_place 3 = .ok (.iload_n 1, 1) := by decide +kernel
theorem dX0_place_4 : decode cX0_place 4 = .ok (.iadd, 1) := by decide +kernel
theorem dX0_place_5 : decode cX0_place 5 = .ok (.ireturn, 1) := by decide +kernel
theorem dX0_fullBlocks_0 : decode cX0_fullBlocks 0 = .ok (.aload_n 0, 1) := by decide +kernel
theorem dX0_fullBlocks_1 : decode cX0_fullBlocks 1 = .ok (.getfield 13, 3) := by decide +kernel
theorem dX0_fullBlocks_4 : decode cX0_fullBlocks 4 = .ok (.bipush 16, 2) := by decide +kernel
theorem dX0_fullBlocks_6 : decode cX0_fullBlocks 6 = .ok (.idiv, 1) := by decide +kernel
theorem dX0_fullBlocks_7 : decode cX0_fullBlocks 7 = .ok (.ireturn, 1) := by decide +kernel
theorem dX0_startedBlocks_0 : decode cX0_startedBlocks 0 = .ok (.aload_n 0, 1) := by decide +kernel
theorem dX0_startedBlocks_1 : decode cX0_startedBlocks 1 = .ok (.getfield 13, 3) := by decide +kernel
theorem dX0_startedBlocks_4 : decode cX0_startedBlocks 4 = .ok (.bipush 16, 2) := by decide +kernel
theorem dX0_startedBlocks_6 : decode cX0_startedBlocks 6 = .ok (.iadd, 1) := by decide +kernel
theorem dX0_startedBlocks_7 : decode cX0_startedBlocks 7 = .ok (.iconst 1, 1) := by decide +kernel
theorem dX0_startedBlocks_8 : decode cX0_startedBlocks 8 = .ok (.isub, 1) := by decide +kernel
theorem dX0_startedBlocks_9 : decode cX0_startedBlocks 9 = .ok (.bipush 16, 2) := by decide +kernel
theorem dX0_startedBlocks_11 : decode cX0_startedBlocks 11 = .ok (.idiv, 1) := by decide +kernel
theorem dX0_startedBlocks_12 : decode cX0_startedBlocks 12 = .ok (.ireturn, 1) := by decide +kernel
theorem dX0_moveRow_0 : decode cX0_moveRow 0 = .ok (.iconst 0, 1) := by decide +kernel
theorem dX0_moveRow_1 : decode cX0_moveRow 1 = .ok (.istore_n 3, 1) := by decide +kernel
theorem dX0_moveRow_2 : decode cX0_moveRow 2 = .ok (.iload_n 3, 1) := by decide +kernel
theorem dX0_moveRow_3 : decode cX0_moveRow 3 = .ok (.iconst 4, 1) := by decide +kernel
theorem dX0_moveRow_4 : decode cX0_moveRow 4 = .ok (.if_icmp .ge 29, 3) := by decide +kernel
theorem dX0_moveRow_7 : decode cX0_moveRow 7 = .ok (.aload_n 0, 1) := by decide +kernel
theorem dX0_moveRow_8 : decode cX0_moveRow 8 = .ok (.getfield 9, 3) := by decide +kernel
theorem dX0_moveRow_11 : decode cX0_moveRow 11 = .ok (.iload_n 2, 1) := by decide +kernel
theorem dX0_moveRow_12 : decode cX0_moveRow 12 = .ok (.iload_n 3, 1) := by decide +kernel
theorem dX0_moveRow_13 : decode cX0_moveRow 13 = .ok (.invokestatic 52, 3) := by decide +kernel
theorem dX0_moveRow_16 : decode cX0_moveRow 16 = .ok (.aload_n 0, 1) := by decide +kernel
theorem dX0_moveRow_17 : decode cX0_moveRow 17 = .ok (.getfield 9, 3) := by decide +kernel
theorem dX0_moveRow_20 : decode cX0_moveRow 20 = .ok (.iload_n 1, 1) := by decide +kernel
theorem dX0_moveRow_21 : decode cX0_moveRow 21 = .ok (.iload_n 3, 1) := by decide +kernel
theorem dX0_moveRow_22 : decode cX0_moveRow 22 = .ok (.invokestatic 52, 3) := by decide +kernel
theorem dX0_moveRow_25 : decode cX0_moveRow 25 = .ok (.laload, 1) := by decide +kernel
theorem dX0_moveRow_26 : decode cX0_moveRow 26 = .ok (.lastore, 1) := by decide +kernel
theorem dX0_moveRow_27 : decode cX0_moveRow 27 = .ok (.iinc 3 1, 3) := by decide +kernel
theorem dX0_moveRow_30 : decode cX0_moveRow 30 = .ok (.goto (-28), 3) := by decide +kernel
theorem dX0_moveRow_33 : decode cX0_moveRow 33 = .ok (.return_, 1) := by decide +kernel
theorem dX0_pick_0 : decode cX0_pick 0 = .ok (.iconst 0, 1) := by decide +kernel
theorem dX0_pick_1 : decode cX0_pick 1 = .ok (.istore_n 1, 1) := by decide +kernel
theorem dX0_pick_2 : decode cX0_pick 2 = .ok (.iconst 0, 1) := by decide +kernel
theorem dX0_pick_3 : decode cX0_pick 3 = .ok (.istore_n 2, 1) := by decide +kernel
theorem dX0_pick_4 : decode cX0_pick 4 = .ok (.iload_n 2, 1) := by decide +kernel
theorem dX0_pick_5 : decode cX0_pick 5 = .ok (.aload_n 0, 1) := by decide +kernel
theorem dX0_pick_6 : decode cX0_pick 6 = .ok (.invokevirtual 81, 3) := by decide +kernel
theorem dX0_pick_9 : decode cX0_pick 9 = .ok (.if_icmp .ge 24, 3) := by decide +kernel
theorem dX0_pick_12 : decode cX0_pick 12 = .ok (.aload_n 0, 1) := by decide +kernel
theorem dX0_pick_13 : decode cX0_pick 13 = .ok (.iload_n 2, 1) := by decide +kernel
theorem dX0_pick_14 : decode cX0_pick 14 = .ok (.invokevirtual 84, 3) := by decide +kernel
theorem dX0_pick_17 : decode cX0_pick 17 = .ok (.ifCond .ne 10, 3) := by decide +kernel
theorem dX0_pick_20 : decode cX0_pick 20 = .ok (.aload_n 0, 1) := by decide +kernel
theorem dX0_pick_21 : decode cX0_pick 21 = .ok (.iload_n 2, 1) := by decide +kernel
theorem dX0_pick_22 : decode cX0_pick 22 = .ok (.iload_n 1, 1) := by decide +kernel
theorem dX0_pick_23 : decode cX0_pick 23 = .ok (.invokevirtual 140, 3) := by decide +kernel
theorem dX0_pick_26 : decode cX0_pick 26 = .ok (.istore_n 1, 1) := by decide +kernel
theorem dX0_pick_27 : decode cX0_pick 27 = .ok (.iinc 2 1, 3) := by decide +kernel
theorem dX0_pick_30 : decode cX0_pick 30 = .ok (.goto (-26), 3) := by decide +kernel
theorem dX0_pick_33 : decode cX0_pick 33 = .ok (.iload_n 1, 1) := by decide +kernel
theorem dX0_pick_34 : decode cX0_pick 34 = .ok (.ireturn, 1) := by decide +kernel
theorem dX0_pickFromBlock_0 : decode cX0_pickFromBlock 0 = .ok (.iload_n 2, 1) := by decide +kernel
theorem dX0_pickFromBlock_1 : decode cX0_pickFromBlock 1 = .ok (.istore_n 3, 1) := by decide +kernel
theorem dX0_pickFromBlock_2 : decode cX0_pickFromBlock 2 = .ok (.aload_n 0, 1) := by decide +kernel
theorem dX0_pickFromBlock_3 : decode cX0_pickFromBlock 3 = .ok (.getfield 13, 3) := by decide +kernel
theorem dX0_pickFromBlock_6 : decode cX0_pickFromBlock 6 = .ok (.iload_n 1, 1) := by decide +kernel
theorem dX0_pickFromBlock_7 : decode cX0_pickFromBlock 7 = .ok (.iconst 1, 1) := by decide +kernel
theorem dX0_pickFromBlock_8 : decode cX0_pickFromBlock 8 = .ok (.iadd, 1) := by decide +kernel
theorem dX0_pickFromBlock_9 : decode cX0_pickFromBlock 9 = .ok (.bipush 16, 2) := by decide +kernel
theorem dX0_pickFromBlock_11 : decode cX0_pickFromBlock 11 = .ok (.imul, 1) := by decide +kernel
theorem dX0_pickFromBlock_12 : decode cX0_pickFromBlock 12 = .ok (.invokestatic 143, 3) := by decide +kernel
theorem dX0_pickFromBlock_15 : decode cX0_pickFromBlock 15 = .ok (.istore 4, 2) := by decide +kernel
theorem dX0_pickFromBlock_17 : decode cX0_pickFromBlock 17 = .ok (.iload_n 1, 1) := by decide +kernel
theorem dX0_pickFromBlock_18 : decode cX0_pickFromBlock 18 = .ok (.bipush 16, 2) := by decide +kernel
theorem dX0_pickFromBlock_20 : decode cX0_pickFromBlock 20 = .ok (.imul, 1) := by decide +kernel
theorem dX0_pickFromBlock_21 : decode cX0_pickFromBlock 21 = .ok (.istore 5, 2) := by decide +kernel
theorem dX0_pickFromBlock_23 : decode cX0_pickFromBlock 23 = .ok (.iload 5, 2) := by decide +kernel
theorem dX0_pickFromBlock_25 : decode cX0_pickFromBlock 25 = .ok (.iload 4, 2) := by decide +kernel
theorem dX0_pickFromBlock_27 : decode cX0_pickFromBlock 27 = .ok (.if_icmp .ge 29, 3) := by decide +kernel
theorem dX0_pickFromBlock_30 : decode cX0_pickFromBlock 30 = .ok (.aload_n 0, 1) := by decide +kernel
theorem dX0_pickFromBlock_31 : decode cX0_pickFromBlock 31 = .ok (.iload 5, 2) := by decide +kernel
theorem dX0_pickFromBlock_33 : decode cX0_pickFromBlock 33 = .ok (.invokevirtual 148, 3) := by decide +kernel
theorem dX0_pickFromBlock_36 : decode cX0_pickFromBlock 36 = .ok (.ifCond .eq 14, 3) := by decide +kernel
theorem dX0_pickFromBlock_39 : decode cX0_pickFromBlock 39 = .ok (.aload_n 0, 1) := by decide +kernel
theorem dX0_pickFromBlock_40 : decode cX0_pickFromBlock 40 = .ok (.getfield 42, 3) := by decide +kernel
theorem dX0_pickFromBlock_43 : decode cX0_pickFromBlock 43 = .ok (.iload_n 3, 1) := by decide +kernel
theorem dX0_pickFromBlock_44 : decode cX0_pickFromBlock 44 = .ok (.iload 5, 2) := by decide +kernel
theorem dX0_pickFromBlock_46 : decode cX0_pickFromBlock 46 = .ok (.iastore, 1) := by decide +kernel
theorem dX0_pickFromBlock_47 : decode cX0_pickFromBlock 47 = .ok (.iinc 3 1, 3) := by decide +kernel
theorem dX0_pickFromBlock_50 : decode cX0_pickFromBlock 50 = .ok (.iinc 5 1, 3) := by decide +kernel
theorem dX0_pickFromBlock_53 : decode cX0_pickFromBlock 53 = .ok (.goto (-30), 3) := by decide +kernel
theorem dX0_pickFromBlock_56 : decode cX0_pickFromBlock 56 = .ok (.iload_n 3, 1) := by decide +kernel
theorem dX0_pickFromBlock_57 : decode cX0_pickFromBlock 57 = .ok (.ireturn, 1) := by decide +kernel
theorem dX0_isChosen_0 : decode cX0_isChosen 0 = .ok (.iconst 0, 1) := by decide +kernel
theorem dX0_isChosen_1 : decode cX0_isChosen 1 = .ok (.istore_n 2, 1) := by decide +kernel
theorem dX0_isChosen_2 : decode cX0_isChosen 2 = .ok (.iload_n 2, 1) := by decide +kernel
theorem dX0_isChosen_3 : decode cX0_isChosen 3 = .ok (.aload_n 0, 1) := by decide +kernel
theorem dX0_isChosen_4 : decode cX0_isChosen 4 = .ok (.getfield 27, 3) := by decide +kernel
theorem dX0_isChosen_7 : decode cX0_isChosen 7 = .ok (.if_icmp .ge 47, 3) := by decide +kernel
theorem dX0_isChosen_10 : decode cX0_isChosen 10 = .ok (.aload_n 0, 1) := by decide +kernel
theorem dX0_isChosen_11 : decode cX0_isChosen 11 = .ok (.getfield 9, 3) := by decide +kernel
theorem dX0_isChosen_14 : decode cX0_isChosen 14 = .ok (.iload_n 1, 1) := by decide +kernel
theorem dX0_isChosen_15 : decode cX0_isChosen 15 = .ok (.aload_n 0, 1) := by decide +kernel
theorem dX0_isChosen_16 : decode cX0_isChosen 16 = .ok (.getfield 17, 3) := by decide +kernel
theorem dX0_isChosen_19 : decode cX0_isChosen 19 = .ok (.iload_n 2, 1) := by decide +kernel
theorem dX0_isChosen_20 : decode cX0_isChosen 20 = .ok (.iaload, 1) := by decide +kernel
theorem dX0_isChosen_21 : decode cX0_isChosen 21 = .ok (.invokestatic 52, 3) := by decide +kernel
theorem dX0_isChosen_24 : decode cX0_isChosen 24 = .ok (.laload, 1) := by decide +kernel
theorem dX0_isChosen_25 : decode cX0_isChosen 25 = .ok (.lstore_n 3, 1) := by decide +kernel
theorem dX0_isChosen_26 : decode cX0_isChosen 26 = .ok (.aload_n 0, 1) := by decide +kernel
theorem dX0_isChosen_27 : decode cX0_isChosen 27 = .ok (.getfield 21, 3) := by decide +kernel
theorem dX0_isChosen_30 : decode cX0_isChosen 30 = .ok (.iload_n 2, 1) := by decide +kernel
theorem dX0_isChosen_31 : decode cX0_isChosen 31 = .ok (.iaload, 1) := by decide +kernel
theorem dX0_isChosen_32 : decode cX0_isChosen 32 = .ok (.aload_n 0, 1) := by decide +kernel
theorem dX0_isChosen_33 : decode cX0_isChosen 33 = .ok (.getfield 24, 3) := by decide +kernel
theorem dX0_isChosen_36 : decode cX0_isChosen 36 = .ok (.iload_n 2, 1) := by decide +kernel
theorem dX0_isChosen_37 : decode cX0_isChosen 37 = .ok (.laload, 1) := by decide +kernel
theorem dX0_isChosen_38 : decode cX0_isChosen 38 = .ok (.lload_n 3, 1) := by decide +kernel
theorem dX0_isChosen_39 : decode cX0_isChosen 39 = .ok (.lload_n 3, 1) := by decide +kernel
theorem dX0_isChosen_40 : decode cX0_isChosen 40 = .ok (.invokestatic 151, 3) := by decide +kernel
theorem dX0_isChosen_43 : decode cX0_isChosen 43 = .ok (.ifCond .ne 5, 3) := by decide +kernel
theorem dX0_isChosen_46 : decode cX0_isChosen 46 = .ok (.iconst 0, 1) := by decide +kernel
theorem dX0_isChosen_47 : decode cX0_isChosen 47 = .ok (.ireturn, 1) := by decide +kernel
theorem dX0_isChosen_48 : decode cX0_isChosen 48 = .ok (.iinc 2 1, 3) := by decide +kernel
theorem dX0_isChosen_51 : decode cX0_isChosen 51 = .ok (.goto (-49), 3) := by decide +kernel
theorem dX0_isChosen_54 : decode cX0_isChosen 54 = .ok (.iconst 1, 1) := by decide +kernel
theorem dX0_isChosen_55 : decode cX0_isChosen 55 = .ok (.ireturn, 1) := by decide +kernel
theorem dX0_isPassedOver_0 : decode cX0_isPassedOver 0 = .ok (.iload_n 1, 1) := by decide +kernel
theorem dX0_isPassedOver_1 : decode cX0_isPassedOver 1 = .ok (.aload_n 0, 1) := by decide +kernel
theorem dX0_isPassedOver_2 : decode cX0_isPassedOver 2 = .ok (.invokevirtual 135, 3) := by decide +kernel
theorem dX0_isPassedOver_5 : decode cX0_isPassedOver 5 = .ok (.if_icmp .lt 5, 3) := by decide +kernel
theorem dX0_isPassedOver_8 : decode cX0_isPassedOver 8 = .ok (.iconst 0, 1) := by decide +kernel
theorem dX0_isPassedOver_9 : decode cX0_isPassedOver 9 = .ok (.ireturn, 1) := by decide +kernel
theorem dX0_isPassedOver_10 : decode cX0_isPassedOver 10 = .ok (.iconst 0, 1) := by decide +kernel
theorem dX0_isPassedOver_11 : decode cX0_isPassedOver 11 = .ok (.istore_n 2, 1) := by decide +kernel
theorem dX0_isPassedOver_12 : decode cX0_isPassedOver 12 = .ok (.iload_n 2, 1) := by decide +kernel
theorem dX0_isPassedOver_13 : decode cX0_isPassedOver 13 = .ok (.aload_n 0, 1) := by decide +kernel
theorem dX0_isPassedOver_14 : decode cX0_isPassedOver 14 = .ok (.getfield 27, 3) := by decide +kernel
theorem dX0_isPassedOver_17 : decode cX0_isPassedOver 17 = .ok (.if_icmp .ge 52, 3) := by decide +kernel
theorem dX0_isPassedOver_20 : decode cX0_isPassedOver 20 = .ok (.iload_n 1, 1) := by decide +kernel
theorem dX0_isPassedOver_21 : decode cX0_isPassedOver 21 = .ok (.aload_n 0, 1) := by decide +kernel
theorem dX0_isPassedOver_22 : decode cX0_isPassedOver 22 = .ok (.getfield 17, 3) := by decide +kernel
theorem dX0_isPassedOver_25 : decode cX0_isPassedOver 25 = .ok (.iload_n 2, 1) := by decide +kernel
theorem dX0_isPassedOver_26 : decode cX0_isPassedOver 26 = .ok (.iaload, 1) := by decide +kernel
theorem dX0_isPassedOver_27 : decode cX0_isPassedOver 27 = .ok (.invokestatic 123, 3) := by decide +kernel
theorem dX0_isPassedOver_30 : decode cX0_isPassedOver 30 = .ok (.istore_n 3, 1) := by decide +kernel
theorem dX0_isPassedOver_31 : decode cX0_isPassedOver 31 = .ok (.aload_n 0, 1) := by decide +kernel
theorem dX0_isPassedOver_32 : decode cX0_isPassedOver 32 = .ok (.getfield 21, 3) := by decide +kernel
theorem dX0_isPassedOver_35 : decode cX0_isPassedOver 35 = .ok (.iload_n 2, 1) := by decide +kernel
theorem dX0_isPassedOver_36 : decode cX0_isPassedOver 36 = .ok (.iaload, 1) := by decide +kernel
theorem dX0_isPassedOver_37 : decode cX0_isPassedOver 37 = .ok (.aload_n 0, 1) := by decide +kernel
theorem dX0_isPassedOver_38 : decode cX0_isPassedOver 38 = .ok (.getfield 24, 3) := by decide +kernel
theorem dX0_isPassedOver_41 : decode cX0_isPassedOver 41 = .ok (.iload_n 2, 1) := by decide +kernel
theorem dX0_isPassedOver_42 : decode cX0_isPassedOver 42 = .ok (.laload, 1) := by decide +kernel
theorem dX0_isPassedOver_43 : decode cX0_isPassedOver 43 = .ok (.aload_n 0, 1) := by decide +kernel
theorem dX0_isPassedOver_44 : decode cX0_isPassedOver 44 = .ok (.getfield 30, 3) := by decide +kernel
theorem dX0_isPassedOver_47 : decode cX0_isPassedOver 47 = .ok (.iload_n 3, 1) := by decide +kernel
theorem dX0_isPassedOver_48 : decode cX0_isPassedOver 48 = .ok (.laload, 1) := by decide +kernel
theorem dX0_isPassedOver_49 : decode cX0_isPassedOver 49 = .ok (.aload_n 0, 1) := by decide +kernel
theorem dX0_isPassedOver_50 : decode cX0_isPassedOver 50 = .ok (.getfield 33, 3) := by decide +kernel
theorem dX0_isPassedOver_53 : decode cX0_isPassedOver 53 = .ok (.iload_n 3, 1) := by decide +kernel
theorem dX0_isPassedOver_54 : decode cX0_isPassedOver 54 = .ok (.laload, 1) := by decide +kernel
theorem dX0_isPassedOver_55 : decode cX0_isPassedOver 55 = .ok (.invokestatic 151, 3) := by decide +kernel
theorem dX0_isPassedOver_58 : decode cX0_isPassedOver 58 = .ok (.ifCond .ne 5, 3) := by decide +kernel
theorem dX0_isPassedOver_61 : decode cX0_isPassedOver 61 = .ok (.iconst 1, 1) := by decide +kernel
theorem dX0_isPassedOver_62 : decode cX0_isPassedOver 62 = .ok (.ireturn, 1) := by decide +kernel
theorem dX0_isPassedOver_63 : decode cX0_isPassedOver 63 = .ok (.iinc 2 1, 3) := by decide +kernel
theorem dX0_isPassedOver_66 : decode cX0_isPassedOver 66 = .ok (.goto (-54), 3) := by decide +kernel
theorem dX0_isPassedOver_69 : decode cX0_isPassedOver 69 = .ok (.iconst 0, 1) := by decide +kernel
theorem dX0_isPassedOver_70 : decode cX0_isPassedOver 70 = .ok (.ireturn, 1) := by decide +kernel
theorem dX0_couldHold_0 : decode cX0_couldHold 0 = .ok (.iload_n 0, 1) := by decide +kernel
theorem dX0_couldHold_1 : decode cX0_couldHold 1 = .ok (.tableswitch 104 0 4 #[35, 47, 59, 78, 91], 35) := by decide +kernel
theorem dX0_couldHold_36 : decode cX0_couldHold 36 = .ok (.lload_n 3, 1) := by decide +kernel
theorem dX0_couldHold_37 : decode cX0_couldHold 37 = .ok (.lload_n 1, 1) := by decide +kernel
theorem dX0_couldHold_38 : decode cX0_couldHold 38 = .ok (.lcmp, 1) := by decide +kernel
theorem dX0_couldHold_39 : decode cX0_couldHold 39 = .ok (.ifCond .ge 7, 3) := by decide +kernel
theorem dX0_couldHold_42 : decode cX0_couldHold 42 = .ok (.iconst 1, 1) := by decide +kernel
theorem dX0_couldHold_43 : decode cX0_couldHold 43 = .ok (.goto 4, 3) := by decide +kernel
theorem dX0_couldHold_46 : decode cX0_couldHold 46 = .ok (.iconst 0, 1) := by decide +kernel
theorem dX0_couldHold_47 : decode cX0_couldHold 47 = .ok (.ireturn, 1) := by decide +kernel
theorem dX0_couldHold_48 : decode cX0_couldHold 48 = .ok (.lload_n 3, 1) := by decide +kernel
theorem dX0_couldHold_49 : decode cX0_couldHold 49 = .ok (.lload_n 1, 1) := by decide +kernel
theorem dX0_couldHold_50 : decode cX0_couldHold 50 = .ok (.lcmp, 1) := by decide +kernel
theorem dX0_couldHold_51 : decode cX0_couldHold 51 = .ok (.ifCond .gt 7, 3) := by decide +kernel
theorem dX0_couldHold_54 : decode cX0_couldHold 54 = .ok (.iconst 1, 1) := by decide +kernel
theorem dX0_couldHold_55 : decode cX0_couldHold 55 = .ok (.goto 4, 3) := by decide +kernel
theorem dX0_couldHold_58 : decode cX0_couldHold 58 = .ok (.iconst 0, 1) := by decide +kernel
theorem dX0_couldHold_59 : decode cX0_couldHold 59 = .ok (.ireturn, 1) := by decide +kernel
theorem dX0_couldHold_60 : decode cX0_couldHold 60 = .ok (.lload_n 3, 1) := by decide +kernel
theorem dX0_couldHold_61 : decode cX0_couldHold 61 = .ok (.lload_n 1, 1) := by decide +kernel
theorem dX0_couldHold_62 : decode cX0_couldHold 62 = .ok (.lcmp, 1) := by decide +kernel
theorem dX0_couldHold_63 : decode cX0_couldHold 63 = .ok (.ifCond .gt 14, 3) := by decide +kernel
theorem dX0_couldHold_66 : decode cX0_couldHold 66 = .ok (.lload_n 1, 1) := by decide +kernel
theorem dX0_couldHold_67 : decode cX0_couldHold 67 = .ok (.lload 5, 2) := by decide +kernel
theorem dX0_couldHold_69 : decode cX0_couldHold 69 = .ok (.lcmp, 1) := by decide +kernel
theorem dX0_couldHold_70 : decode cX0_couldHold 70 = .ok (.ifCond .gt 7, 3) := by decide +kernel
theorem dX0_couldHold_73 : decode cX0_couldHold 73 = .ok (.iconst 1, 1) := by decide +kernel
theorem dX0_couldHold_74 : decode cX0_couldHold 74 = .ok (.goto 4, 3) := by decide +kernel
theorem dX0_couldHold_77 : decode cX0_couldHold 77 = .ok (.iconst 0, 1) := by decide +kernel
theorem dX0_couldHold_78 : decode cX0_couldHold 78 = .ok (.ireturn, 1) := by decide +kernel
theorem dX0_couldHold_79 : decode cX0_couldHold 79 = .ok (.lload 5, 2) := by decide +kernel
theorem dX0_couldHold_81 : decode cX0_couldHold 81 = .ok (.lload_n 1, 1) := by decide +kernel
theorem dX0_couldHold_82 : decode cX0_couldHold 82 = .ok (.lcmp, 1) := by decide +kernel
theorem dX0_couldHold_83 : decode cX0_couldHold 83 = .ok (.ifCond .lt 7, 3) := by decide +kernel
theorem dX0_couldHold_86 : decode cX0_couldHold 86 = .ok (.iconst 1, 1) := by decide +kernel
theorem dX0_couldHold_87 : decode cX0_couldHold 87 = .ok (.goto 4, 3) := by decide +kernel
theorem dX0_couldHold_90 : decode cX0_couldHold 90 = .ok (.iconst 0, 1) := by decide +kernel
theorem dX0_couldHold_91 : decode cX0_couldHold 91 = .ok (.ireturn, 1) := by decide +kernel
theorem dX0_couldHold_92 : decode cX0_couldHold 92 = .ok (.lload 5, 2) := by decide +kernel
theorem dX0_couldHold_94 : decode cX0_couldHold 94 = .ok (.lload_n 1, 1) := by decide +kernel
theorem dX0_couldHold_95 : decode cX0_couldHold 95 = .ok (.lcmp, 1) := by decide +kernel
theorem dX0_couldHold_96 : decode cX0_couldHold 96 = .ok (.ifCond .le 7, 3) := by decide +kernel
theorem dX0_couldHold_99 : decode cX0_couldHold 99 = .ok (.iconst 1, 1) := by decide +kernel
theorem dX0_couldHold_100 : decode cX0_couldHold 100 = .ok (.goto 4, 3) := by decide +kernel
theorem dX0_couldHold_103 : decode cX0_couldHold 103 = .ok (.iconst 0, 1) := by decide +kernel
theorem dX0_couldHold_104 : decode cX0_couldHold 104 = .ok (.ireturn, 1) := by decide +kernel
theorem dX0_couldHold_105 : decode cX0_couldHold 105 = .ok (.lload_n 3, 1) := by decide +kernel
theorem dX0_couldHold_106 : decode cX0_couldHold 106 = .ok (.lload_n 1, 1) := by decide +kernel
theorem dX0_couldHold_107 : decode cX0_couldHold 107 = .ok (.lcmp, 1) := by decide +kernel
theorem dX0_couldHold_108 : decode cX0_couldHold 108 = .ok (.ifCond .ne 10, 3) := by decide +kernel
theorem dX0_couldHold_111 : decode cX0_couldHold 111 = .ok (.lload 5, 2) := by decide +kernel
theorem dX0_couldHold_113 : decode cX0_couldHold 113 = .ok (.lload_n 1, 1) := by decide +kernel
theorem dX0_couldHold_114 : decode cX0_couldHold 114 = .ok (.lcmp, 1) := by decide +kernel
theorem dX0_couldHold_115 : decode cX0_couldHold 115 = .ok (.ifCond .eq 7, 3) := by decide +kernel
theorem dX0_couldHold_118 : decode cX0_couldHold 118 = .ok (.iconst 1, 1) := by decide +kernel
theorem dX0_couldHold_119 : decode cX0_couldHold 119 = .ok (.goto 4, 3) := by decide +kernel
theorem dX0_couldHold_122 : decode cX0_couldHold 122 = .ok (.iconst 0, 1) := by decide +kernel
theorem dX0_couldHold_123 : decode cX0_couldHold 123 = .ok (.ireturn, 1) := by decide +kernel
theorem dX0_sumOfPicked_0 : decode cX0_sumOfPicked 0 = .ok (.lconst 0, 1) := by decide +kernel
theorem dX0_sumOfPicked_1 : decode cX0_sumOfPicked 1 = .ok (.lstore 4, 2) := by decide +kernel
theorem dX0_sumOfPicked_3 : decode cX0_sumOfPicked 3 = .ok (.iload_n 2, 1) := by decide +kernel
theorem dX0_sumOfPicked_4 : decode cX0_sumOfPicked 4 = .ok (.istore 6, 2) := by decide +kernel
theorem dX0_sumOfPicked_6 : decode cX0_sumOfPicked 6 = .ok (.iload 6, 2) := by decide +kernel
theorem dX0_sumOfPicked_8 : decode cX0_sumOfPicked 8 = .ok (.iload_n 3, 1) := by decide +kernel
theorem dX0_sumOfPicked_9 : decode cX0_sumOfPicked 9 = .ok (.if_icmp .ge 30, 3) := by decide +kernel
theorem dX0_sumOfPicked_12 : decode cX0_sumOfPicked 12 = .ok (.lload 4, 2) := by decide +kernel
theorem dX0_sumOfPicked_14 : decode cX0_sumOfPicked 14 = .ok (.aload_n 0, 1) := by decide +kernel
theorem dX0_sumOfPicked_15 : decode cX0_sumOfPicked 15 = .ok (.getfield 9, 3) := by decide +kernel
theorem dX0_sumOfPicked_18 : decode cX0_sumOfPicked 18 = .ok (.aload_n 0, 1) := by decide +kernel
theorem dX0_sumOfPicked_19 : decode cX0_sumOfPicked 19 = .ok (.getfield 42, 3) := by decide +kernel
theorem dX0_sumOfPicked_22 : decode cX0_sumOfPicked 22 = .ok (.iload 6, 2) := by decide +kernel
theorem dX0_sumOfPicked_24 : decode cX0_sumOfPicked 24 = .ok (.iaload, 1) := by decide +kernel
theorem dX0_sumOfPicked_25 : decode cX0_sumOfPicked 25 = .ok (.iload_n 1, 1) := by decide +kernel
theorem dX0_sumOfPicked_26 : decode cX0_sumOfPicked 26 = .ok (.invokestatic 52, 3) := by decide +kernel
theorem dX0_sumOfPicked_29 : decode cX0_sumOfPicked 29 = .ok (.laload, 1) := by decide +kernel
theorem dX0_sumOfPicked_30 : decode cX0_sumOfPicked 30 = .ok (.ladd, 1) := by decide +kernel
theorem dX0_sumOfPicked_31 : decode cX0_sumOfPicked 31 = .ok (.lstore 4, 2) := by decide +kernel
theorem dX0_sumOfPicked_33 : decode cX0_sumOfPicked 33 = .ok (.iinc 6 1, 3) := by decide +kernel
theorem dX0_sumOfPicked_36 : decode cX0_sumOfPicked 36 = .ok (.goto (-30), 3) := by decide +kernel
theorem dX0_sumOfPicked_39 : decode cX0_sumOfPicked 39 = .ok (.lload 4, 2) := by decide +kernel
theorem dX0_sumOfPicked_41 : decode cX0_sumOfPicked 41 = .ok (.lreturn, 1) := by decide +kernel
theorem dX0_boundOfPicked_0 : decode cX0_boundOfPicked 0 = .ok (.aload_n 0, 1) := by decide +kernel
theorem dX0_boundOfPicked_1 : decode cX0_boundOfPicked 1 = .ok (.getfield 9, 3) := by decide +kernel
theorem dX0_boundOfPicked_4 : decode cX0_boundOfPicked 4 = .ok (.aload_n 0, 1) := by decide +kernel
theorem dX0_boundOfPicked_5 : decode cX0_boundOfPicked 5 = .ok (.getfield 42, 3) := by decide +kernel
theorem dX0_boundOfPicked_8 : decode cX0_boundOfPicked 8 = .ok (.iload_n 3, 1) := by decide +kernel
theorem dX0_boundOfPicked_9 : decode cX0_boundOfPicked 9 = .ok (.iaload, 1) := by decide +kernel
theorem dX0_boundOfPicked_10 : decode cX0_boundOfPicked 10 = .ok (.iload_n 1, 1) := by decide +kernel
theorem dX0_boundOfPicked_11 : decode cX0_boundOfPicked 11 = .ok (.invokestatic 52, 3) := by decide +kernel
theorem dX0_boundOfPicked_14 : decode cX0_boundOfPicked 14 = .ok (.laload, 1) := by decide +kernel
theorem dX0_boundOfPicked_15 : decode cX0_boundOfPicked 15 = .ok (.lstore 5, 2) := by decide +kernel
theorem dX0_boundOfPicked_17 : decode cX0_boundOfPicked 17 = .ok (.iload_n 3, 1) := by decide +kernel
theorem dX0_boundOfPicked_18 : decode cX0_boundOfPicked 18 = .ok (.iconst 1, 1) := by decide +kernel
theorem dX0_boundOfPicked_19 : decode cX0_boundOfPicked 19 = .ok (.iadd, 1) := by decide +kernel
theorem dX0_boundOfPicked_20 : decode cX0_boundOfPicked 20 = .ok (.istore 7, 2) := by decide +kernel
theorem dX0_boundOfPicked_22 : decode cX0_boundOfPicked 22 = .ok (.iload 7, 2) := by decide +kernel
theorem dX0_boundOfPicked_24 : decode cX0_boundOfPicked 24 = .ok (.iload 4, 2) := by decide +kernel
theorem dX0_boundOfPicked_26 : decode cX0_boundOfPicked 26 = .ok (.if_icmp .ge 54, 3) := by decide +kernel
theorem dX0_boundOfPicked_29 : decode cX0_boundOfPicked 29 = .ok (.aload_n 0, 1) := by decide +kernel
theorem dX0_boundOfPicked_30 : decode cX0_boundOfPicked 30 = .ok (.getfield 9, 3) := by decide +kernel
theorem dX0_boundOfPicked_33 : decode cX0_boundOfPicked 33 = .ok (.aload_n 0, 1) := by decide +kernel
theorem dX0_boundOfPicked_34 : decode cX0_boundOfPicked 34 = .ok (.getfield 42, 3) := by decide +kernel
theorem dX0_boundOfPicked_37 : decode cX0_boundOfPicked 37 = .ok (.iload 7, 2) := by decide +kernel
theorem dX0_boundOfPicked_39 : decode cX0_boundOfPicked 39 = .ok (.iaload, 1) := by decide +kernel
theorem dX0_boundOfPicked_40 : decode cX0_boundOfPicked 40 = .ok (.iload_n 1, 1) := by decide +kernel
theorem dX0_boundOfPicked_41 : decode cX0_boundOfPicked 41 = .ok (.invokestatic 52, 3) := by decide +kernel
theorem dX0_boundOfPicked_44 : decode cX0_boundOfPicked 44 = .ok (.laload, 1) := by decide +kernel
theorem dX0_boundOfPicked_45 : decode cX0_boundOfPicked 45 = .ok (.lstore 8, 2) := by decide +kernel
theorem dX0_boundOfPicked_47 : decode cX0_boundOfPicked 47 = .ok (.iload_n 2, 1) := by decide +kernel
theorem dX0_boundOfPicked_48 : decode cX0_boundOfPicked 48 = .ok (.ifCond .eq 14, 3) := by decide +kernel
theorem dX0_boundOfPicked_51 : decode cX0_boundOfPicked 51 = .ok (.lload 8, 2) := by decide +kernel
theorem dX0_boundOfPicked_53 : decode cX0_boundOfPicked 53 = .ok (.lload 5, 2) := by decide +kernel
theorem dX0_boundOfPicked_55 : decode cX0_boundOfPicked 55 = .ok (.lcmp, 1) := by decide +kernel
theorem dX0_boundOfPicked_56 : decode cX0_boundOfPicked 56 = .ok (.ifCond .le 18, 3) := by decide +kernel
theorem dX0_boundOfPicked_59 : decode cX0_boundOfPicked 59 = .ok (.goto 11, 3) := by decide +kernel
theorem dX0_boundOfPicked_62 : decode cX0_boundOfPicked 62 = .ok (.lload 8, 2) := by decide +kernel
theorem dX0_boundOfPicked_64 : decode cX0_boundOfPicked 64 = .ok (.lload 5, 2) := by decide +kernel
theorem dX0_boundOfPicked_66 : decode cX0_boundOfPicked 66 = .ok (.lcmp, 1) := by decide +kernel
theorem dX0_boundOfPicked_67 : decode cX0_boundOfPicked 67 = .ok (.ifCond .ge 7, 3) := by decide +kernel
theorem dX0_boundOfPicked_70 : decode cX0_boundOfPicked 70 = .ok (.lload 8, 2) := by decide +kernel
theorem dX0_boundOfPicked_72 : decode cX0_boundOfPicked 72 = .ok (.lstore 5, 2) := by decide +kernel
theorem dX0_boundOfPicked_74 : decode cX0_boundOfPicked 74 = .ok (.iinc 7 1, 3) := by decide +kernel
theorem dX0_boundOfPicked_77 : decode cX0_boundOfPicked 77 = .ok (.goto (-55), 3) := by decide +kernel
theorem dX0_boundOfPicked_80 : decode cX0_boundOfPicked 80 = .ok (.lload 5, 2) := by decide +kernel
theorem dX0_boundOfPicked_82 : decode cX0_boundOfPicked 82 = .ok (.lreturn, 1) := by decide +kernel
theorem dX0_sortPicked_0 : decode cX0_sortPicked 0 = .ok (.iconst 1, 1) := by decide +kernel
theorem dX0_sortPicked_1 : decode cX0_sortPicked 1 = .ok (.istore 4, 2) := by decide +kernel
theorem dX0_sortPicked_3 : decode cX0_sortPicked 3 = .ok (.iload 4, 2) := by decide +kernel
theorem dX0_sortPicked_5 : decode cX0_sortPicked 5 = .ok (.iload_n 1, 1) := by decide +kernel
theorem dX0_sortPicked_6 : decode cX0_sortPicked 6 = .ok (.if_icmp .ge 98, 3) := by decide +kernel
theorem dX0_sortPicked_9 : decode cX0_sortPicked 9 = .ok (.aload_n 0, 1) := by decide +kernel
theorem dX0_sortPicked_10 : decode cX0_sortPicked 10 = .ok (.getfield 42, 3) := by decide +kernel
theorem dX0_sortPicked_13 : decode cX0_sortPicked 13 = .ok (.iload 4, 2) := by decide +kernel
theorem dX0_sortPicked_15 : decode cX0_sortPicked 15 = .ok (.iaload, 1) := by decide +kernel
theorem dX0_sortPicked_16 : decode cX0_sortPicked 16 = .ok (.istore 5, 2) := by decide +kernel
theorem dX0_sortPicked_18 : decode cX0_sortPicked 18 = .ok (.aload_n 0, 1) := by decide +kernel
theorem dX0_sortPicked_19 : decode cX0_sortPicked 19 = .ok (.getfield 9, 3) := by decide +kernel
theorem dX0_sortPicked_22 : decode cX0_sortPicked 22 = .ok (.iload 5, 2) := by decide +kernel
theorem dX0_sortPicked_24 : decode cX0_sortPicked 24 = .ok (.iload_n 2, 1) := by decide +kernel
theorem dX0_sortPicked_25 : decode cX0_sortPicked 25 = .ok (.invokestatic 52, 3) := by decide +kernel
theorem dX0_sortPicked_28 : decode cX0_sortPicked 28 = .ok (.laload, 1) := by decide +kernel
theorem dX0_sortPicked_29 : decode cX0_sortPicked 29 = .ok (.lstore 6, 2) := by decide +kernel
theorem dX0_sortPicked_31 : decode cX0_sortPicked 31 = .ok (.iload 4, 2) := by decide +kernel
theorem dX0_sortPicked_33 : decode cX0_sortPicked 33 = .ok (.istore 8, 2) := by decide +kernel
theorem dX0_sortPicked_35 : decode cX0_sortPicked 35 = .ok (.iload 8, 2) := by decide +kernel
theorem dX0_sortPicked_37 : decode cX0_sortPicked 37 = .ok (.ifCond .le 52, 3) := by decide +kernel
theorem dX0_sortPicked_40 : decode cX0_sortPicked 40 = .ok (.lload 6, 2) := by decide +kernel
theorem dX0_sortPicked_42 : decode cX0_sortPicked 42 = .ok (.aload_n 0, 1) := by decide +kernel
theorem dX0_sortPicked_43 : decode cX0_sortPicked 43 = .ok (.getfield 9, 3) := by decide +kernel
theorem dX0_sortPicked_46 : decode cX0_sortPicked 46 = .ok (.aload_n 0, 1) := by decide +kernel
theorem dX0_sortPicked_47 : decode cX0_sortPicked 47 = .ok (.getfield 42, 3) := by decide +kernel
theorem dX0_sortPicked_50 : decode cX0_sortPicked 50 = .ok (.iload 8, 2) := by decide +kernel
theorem dX0_sortPicked_52 : decode cX0_sortPicked 52 = .ok (.iconst 1, 1) := by decide +kernel
theorem dX0_sortPicked_53 : decode cX0_sortPicked 53 = .ok (.isub, 1) := by decide +kernel
theorem dX0_sortPicked_54 : decode cX0_sortPicked 54 = .ok (.iaload, 1) := by decide +kernel
theorem dX0_sortPicked_55 : decode cX0_sortPicked 55 = .ok (.iload_n 2, 1) := by decide +kernel
theorem dX0_sortPicked_56 : decode cX0_sortPicked 56 = .ok (.invokestatic 52, 3) := by decide +kernel
theorem dX0_sortPicked_59 : decode cX0_sortPicked 59 = .ok (.laload, 1) := by decide +kernel
theorem dX0_sortPicked_60 : decode cX0_sortPicked 60 = .ok (.iload_n 3, 1) := by decide +kernel
theorem dX0_sortPicked_61 : decode cX0_sortPicked 61 = .ok (.invokestatic 155, 3) := by decide +kernel
theorem dX0_sortPicked_64 : decode cX0_sortPicked 64 = .ok (.ifCond .eq 25, 3) := by decide +kernel
theorem dX0_sortPicked_67 : decode cX0_sortPicked 67 = .ok (.aload_n 0, 1) := by decide +kernel
theorem dX0_sortPicked_68 : decode cX0_sortPicked 68 = .ok (.getfield 42, 3) := by decide +kernel
theorem dX0_sortPicked_71 : decode cX0_sortPicked 71 = .ok (.iload 8, 2) := by decide +kernel
theorem dX0_sortPicked_73 : decode cX0_sortPicked 73 = .ok (.aload_n 0, 1) := by decide +kernel
theorem dX0_sortPicked_74 : decode cX0_sortPicked 74 = .ok (.getfield 42, 3) := by decide +kernel
theorem dX0_sortPicked_77 : decode cX0_sortPicked 77 = .ok (.iload 8, 2) := by decide +kernel
theorem dX0_sortPicked_79 : decode cX0_sortPicked 79 = .ok (.iconst 1, 1) := by decide +kernel
theorem dX0_sortPicked_80 : decode cX0_sortPicked 80 = .ok (.isub, 1) := by decide +kernel
theorem dX0_sortPicked_81 : decode cX0_sortPicked 81 = .ok (.iaload, 1) := by decide +kernel
theorem dX0_sortPicked_82 : decode cX0_sortPicked 82 = .ok (.iastore, 1) := by decide +kernel
theorem dX0_sortPicked_83 : decode cX0_sortPicked 83 = .ok (.iinc 8 (-1), 3) := by decide +kernel
theorem dX0_sortPicked_86 : decode cX0_sortPicked 86 = .ok (.goto (-51), 3) := by decide +kernel
theorem dX0_sortPicked_89 : decode cX0_sortPicked 89 = .ok (.aload_n 0, 1) := by decide +kernel
theorem dX0_sortPicked_90 : decode cX0_sortPicked 90 = .ok (.getfield 42, 3) := by decide +kernel
theorem dX0_sortPicked_93 : decode cX0_sortPicked 93 = .ok (.iload 8, 2) := by decide +kernel
theorem dX0_sortPicked_95 : decode cX0_sortPicked 95 = .ok (.iload 5, 2) := by decide +kernel
theorem dX0_sortPicked_97 : decode cX0_sortPicked 97 = .ok (.iastore, 1) := by decide +kernel
theorem dX0_sortPicked_98 : decode cX0_sortPicked 98 = .ok (.iinc 4 1, 3) := by decide +kernel
theorem dX0_sortPicked_101 : decode cX0_sortPicked 101 = .ok (.goto (-98), 3) := by decide +kernel
theorem dX0_sortPicked_104 : decode cX0_sortPicked 104 = .ok (.return_, 1) := by decide +kernel
theorem dX0_comesBefore_0 : decode cX0_comesBefore 0 = .ok (.iload 4, 2) := by decide +kernel
theorem dX0_comesBefore_2 : decode cX0_comesBefore 2 = .ok (.ifCond .eq 17, 3) := by decide +kernel
theorem dX0_comesBefore_5 : decode cX0_comesBefore 5 = .ok (.lload_n 0, 1) := by decide +kernel
theorem dX0_comesBefore_6 : decode cX0_comesBefore 6 = .ok (.lload_n 2, 1) := by decide +kernel
theorem dX0_comesBefore_7 : decode cX0_comesBefore 7 = .ok (.lcmp, 1) := by decide +kernel
theorem dX0_comesBefore_8 : decode cX0_comesBefore 8 = .ok (.ifCond .le 7, 3) := by decide +kernel
theorem dX0_comesBefore_11 : decode cX0_comesBefore 11 = .ok (.iconst 1, 1) := by decide +kernel
theorem dX0_comesBefore_12 : decode cX0_comesBefore 12 = .ok (.goto 18, 3) := by decide +kernel
theorem dX0_comesBefore_15 : decode cX0_comesBefore 15 = .ok (.iconst 0, 1) := by decide +kernel
theorem dX0_comesBefore_16 : decode cX0_comesBefore 16 = .ok (.goto 14, 3) := by decide +kernel
theorem dX0_comesBefore_19 : decode cX0_comesBefore 19 = .ok (.lload_n 0, 1) := by decide +kernel
theorem dX0_comesBefore_20 : decode cX0_comesBefore 20 = .ok (.lload_n 2, 1) := by decide +kernel
theorem dX0_comesBefore_21 : decode cX0_comesBefore 21 = .ok (.lcmp, 1) := by decide +kernel
theorem dX0_comesBefore_22 : decode cX0_comesBefore 22 = .ok (.ifCond .ge 7, 3) := by decide +kernel
theorem dX0_comesBefore_25 : decode cX0_comesBefore 25 = .ok (.iconst 1, 1) := by decide +kernel
theorem dX0_comesBefore_26 : decode cX0_comesBefore 26 = .ok (.goto 4, 3) := by decide +kernel
theorem dX0_comesBefore_29 : decode cX0_comesBefore 29 = .ok (.iconst 0, 1) := by decide +kernel
theorem dX0_comesBefore_30 : decode cX0_comesBefore 30 = .ok (.ireturn, 1) := by decide +kernel
theorem dX0_startsGroup_0 : decode cX0_startsGroup 0 = .ok (.iload_n 1, 1) := by decide +kernel
theorem dX0_startsGroup_1 : decode cX0_startsGroup 1 = .ok (.ifCond .eq 39, 3) := by decide +kernel
theorem dX0_startsGroup_4 : decode cX0_startsGroup 4 = .ok (.aload_n 0, 1) := by decide +kernel
theorem dX0_startsGroup_5 : decode cX0_startsGroup 5 = .ok (.getfield 9, 3) := by decide +kernel
theorem dX0_startsGroup_8 : decode cX0_startsGroup 8 = .ok (.aload_n 0, 1) := by decide +kernel
theorem dX0_startsGroup_9 : decode cX0_startsGroup 9 = .ok (.getfield 42, 3) := by decide +kernel
theorem dX0_startsGroup_12 : decode cX0_startsGroup 12 = .ok (.iload_n 1, 1) := by decide +kernel
theorem dX0_startsGroup_13 : decode cX0_startsGroup 13 = .ok (.iaload, 1) := by decide +kernel
theorem dX0_startsGroup_14 : decode cX0_startsGroup 14 = .ok (.iload_n 2, 1) := by decide +kernel
theorem dX0_startsGroup_15 : decode cX0_startsGroup 15 = .ok (.invokestatic 52, 3) := by decide +kernel
theorem dX0_startsGroup_18 : decode cX0_startsGroup 18 = .ok (.laload, 1) := by decide +kernel
theorem dX0_startsGroup_19 : decode cX0_startsGroup 19 = .ok (.aload_n 0, 1) := by decide +kernel
theorem dX0_startsGroup_20 : decode cX0_startsGroup 20 = .ok (.getfield 9, 3) := by decide +kernel
theorem dX0_startsGroup_23 : decode cX0_startsGroup 23 = .ok (.aload_n 0, 1) := by decide +kernel
theorem dX0_startsGroup_24 : decode cX0_startsGroup 24 = .ok (.getfield 42, 3) := by decide +kernel
theorem dX0_startsGroup_27 : decode cX0_startsGroup 27 = .ok (.iload_n 1, 1) := by decide +kernel
theorem dX0_startsGroup_28 : decode cX0_startsGroup 28 = .ok (.iconst 1, 1) := by decide +kernel
theorem dX0_startsGroup_29 : decode cX0_startsGroup 29 = .ok (.isub, 1) := by decide +kernel
theorem dX0_startsGroup_30 : decode cX0_startsGroup 30 = .ok (.iaload, 1) := by decide +kernel
theorem dX0_startsGroup_31 : decode cX0_startsGroup 31 = .ok (.iload_n 2, 1) := by decide +kernel
theorem dX0_startsGroup_32 : decode cX0_startsGroup 32 = .ok (.invokestatic 52, 3) := by decide +kernel
theorem dX0_startsGroup_35 : decode cX0_startsGroup 35 = .ok (.laload, 1) := by decide +kernel
theorem dX0_startsGroup_36 : decode cX0_startsGroup 36 = .ok (.lcmp, 1) := by decide +kernel
theorem dX0_startsGroup_37 : decode cX0_startsGroup 37 = .ok (.ifCond .eq 7, 3) := by decide +kernel
theorem dX0_startsGroup_40 : decode cX0_startsGroup 40 = .ok (.iconst 1, 1) := by decide +kernel
theorem dX0_startsGroup_41 : decode cX0_startsGroup 41 = .ok (.goto 4, 3) := by decide +kernel
theorem dX0_startsGroup_44 : decode cX0_startsGroup 44 = .ok (.iconst 0, 1) := by decide +kernel
theorem dX0_startsGroup_45 : decode cX0_startsGroup 45 = .ok (.ireturn, 1) := by decide +kernel
theorem dX0_groupStart_0 : decode cX0_groupStart 0 = .ok (.iconst 0, 1) := by decide +kernel
theorem dX0_groupStart_1 : decode cX0_groupStart 1 = .ok (.istore 4, 2) := by decide +kernel
theorem dX0_groupStart_3 : decode cX0_groupStart 3 = .ok (.iconst 0, 1) := by decide +kernel
theorem dX0_groupStart_4 : decode cX0_groupStart 4 = .ok (.istore 5, 2) := by decide +kernel
theorem dX0_groupStart_6 : decode cX0_groupStart 6 = .ok (.iload 5, 2) := by decide +kernel
theorem dX0_groupStart_8 : decode cX0_groupStart 8 = .ok (.iload_n 3, 1) := by decide +kernel
theorem dX0_groupStart_9 : decode cX0_groupStart 9 = .ok (.if_icmp .ge 31, 3) := by decide +kernel
theorem dX0_groupStart_12 : decode cX0_groupStart 12 = .ok (.aload_n 0, 1) := by decide +kernel
theorem dX0_groupStart_13 : decode cX0_groupStart 13 = .ok (.iload 5, 2) := by decide +kernel
theorem dX0_groupStart_15 : decode cX0_groupStart 15 = .ok (.iload_n 2, 1) := by decide +kernel
theorem dX0_groupStart_16 : decode cX0_groupStart 16 = .ok (.invokevirtual 105, 3) := by decide +kernel
theorem dX0_groupStart_19 : decode cX0_groupStart 19 = .ok (.ifCond .eq 15, 3) := by decide +kernel
theorem dX0_groupStart_22 : decode cX0_groupStart 22 = .ok (.iload 4, 2) := by decide +kernel
theorem dX0_groupStart_24 : decode cX0_groupStart 24 = .ok (.iload_n 1, 1) := by decide +kernel
theorem dX0_groupStart_25 : decode cX0_groupStart 25 = .ok (.if_icmp .ne 6, 3) := by decide +kernel
theorem dX0_groupStart_28 : decode cX0_groupStart 28 = .ok (.iload 5, 2) := by decide +kernel
theorem dX0_groupStart_30 : decode cX0_groupStart 30 = .ok (.ireturn, 1) := by decide +kernel
theorem dX0_groupStart_31 : decode cX0_groupStart 31 = .ok (.iinc 4 1, 3) := by decide +kernel
theorem dX0_groupStart_34 : decode cX0_groupStart 34 = .ok (.iinc 5 1, 3) := by decide +kernel
theorem dX0_groupStart_37 : decode cX0_groupStart 37 = .ok (.goto (-31), 3) := by decide +kernel
theorem dX0_groupStart_40 : decode cX0_groupStart 40 = .ok (.iconst (-1), 1) := by decide +kernel
theorem dX0_groupStart_41 : decode cX0_groupStart 41 = .ok (.ireturn, 1) := by decide +kernel
theorem dX0_groupEnd_0 : decode cX0_groupEnd 0 = .ok (.iload_n 1, 1) := by decide +kernel
theorem dX0_groupEnd_1 : decode cX0_groupEnd 1 = .ok (.iconst 1, 1) := by decide +kernel
theorem dX0_groupEnd_2 : decode cX0_groupEnd 2 = .ok (.iadd, 1) := by decide +kernel
theorem dX0_groupEnd_3 : decode cX0_groupEnd 3 = .ok (.istore 4, 2) := by decide +kernel
theorem dX0_groupEnd_5 : decode cX0_groupEnd 5 = .ok (.iload 4, 2) := by decide +kernel
theorem dX0_groupEnd_7 : decode cX0_groupEnd 7 = .ok (.iload_n 3, 1) := by decide +kernel
theorem dX0_groupEnd_8 : decode cX0_groupEnd 8 = .ok (.if_icmp .ge 22, 3) := by decide +kernel
theorem dX0_groupEnd_11 : decode cX0_groupEnd 11 = .ok (.aload_n 0, 1) := by decide +kernel
theorem dX0_groupEnd_12 : decode cX0_groupEnd 12 = .ok (.iload 4, 2) := by decide +kernel
theorem dX0_groupEnd_14 : decode cX0_groupEnd 14 = .ok (.iload_n 2, 1) := by decide +kernel
theorem dX0_groupEnd_15 : decode cX0_groupEnd 15 = .ok (.invokevirtual 105, 3) := by decide +kernel
theorem dX0_groupEnd_18 : decode cX0_groupEnd 18 = .ok (.ifCond .eq 6, 3) := by decide +kernel
theorem dX0_groupEnd_21 : decode cX0_groupEnd 21 = .ok (.iload 4, 2) := by decide +kernel
theorem dX0_groupEnd_23 : decode cX0_groupEnd 23 = .ok (.ireturn, 1) := by decide +kernel
theorem dX0_groupEnd_24 : decode cX0_groupEnd 24 = .ok (.iinc 4 1, 3) := by decide +kernel
theorem dX0_groupEnd_27 : decode cX0_groupEnd 27 = .ok (.goto (-22), 3) := by decide +kernel
theorem dX0_groupEnd_30 : decode cX0_groupEnd 30 = .ok (.iload_n 3, 1) := by decide +kernel
theorem dX0_groupEnd_31 : decode cX0_groupEnd 31 = .ok (.ireturn, 1) := by decide +kernel
theorem dX0_packFullBlocks_0 : decode cX0_packFullBlocks 0 = .ok (.iconst 0, 1) := by decide +kernel
theorem dX0_packFullBlocks_1 : decode cX0_packFullBlocks 1 = .ok (.istore_n 1, 1) := by decide +kernel
theorem dX0_packFullBlocks_2 : decode cX0_packFullBlocks 2 = .ok (.iload_n 1, 1) := by decide +kernel
theorem dX0_packFullBlocks_3 : decode cX0_packFullBlocks 3 = .ok (.aload_n 0, 1) := by decide +kernel
theorem dX0_packFullBlocks_4 : decode cX0_packFullBlocks 4 = .ok (.invokevirtual 135, 3) := by decide +kernel
theorem dX0_packFullBlocks_7 : decode cX0_packFullBlocks 7 = .ok (.if_icmp .ge 14, 3) := by decide +kernel
theorem dX0_packFullBlocks_10 : decode cX0_packFullBlocks 10 = .ok (.aload_n 0, 1) := by decide +kernel
theorem dX0_packFullBlocks_11 : decode cX0_packFullBlocks 11 = .ok (.iload_n 1, 1) := by decide +kernel
theorem dX0_packFullBlocks_12 : decode cX0_packFullBlocks 12 = .ok (.invokevirtual 56, 3) := by decide +kernel
theorem dX0_packFullBlocks_15 : decode cX0_packFullBlocks 15 = .ok (.iinc 1 1, 3) := by decide +kernel
theorem dX0_packFullBlocks_18 : decode cX0_packFullBlocks 18 = .ok (.goto (-16), 3) := by decide +kernel
theorem dX0_packFullBlocks_21 : decode cX0_packFullBlocks 21 = .ok (.return_, 1) := by decide +kernel
theorem dX0_packBlock_0 : decode cX0_packBlock 0 = .ok (.iconst 0, 1) := by decide +kernel
theorem dX0_packBlock_1 : decode cX0_packBlock 1 = .ok (.istore_n 2, 1) := by decide +kernel
theorem dX0_packBlock_2 : decode cX0_packBlock 2 = .ok (.iload_n 2, 1) := by decide +kernel
theorem dX0_packBlock_3 : decode cX0_packBlock 3 = .ok (.iconst 4, 1) := by decide +kernel
theorem dX0_packBlock_4 : decode cX0_packBlock 4 = .ok (.if_icmp .ge 15, 3) := by decide +kernel
theorem dX0_packBlock_7 : decode cX0_packBlock 7 = .ok (.aload_n 0, 1) := by decide +kernel
theorem dX0_packBlock_8 : decode cX0_packBlock 8 = .ok (.iload_n 1, 1) := by decide +kernel
theorem dX0_packBlock_9 : decode cX0_packBlock 9 = .ok (.iload_n 2, 1) := by decide +kernel
theorem dX0_packBlock_10 : decode cX0_packBlock 10 = .ok (.invokevirtual 159, 3) := by decide +kernel
theorem dX0_packBlock_13 : decode cX0_packBlock 13 = .ok (.iinc 2 1, 3) := by decide +kernel
theorem dX0_packBlock_16 : decode cX0_packBlock 16 = .ok (.goto (-14), 3) := by decide +kernel
theorem dX0_packBlock_19 : decode cX0_packBlock 19 = .ok (.return_, 1) := by decide +kernel
theorem dX0_packColumn_0 : decode cX0_packColumn 0 = .ok (.iload_n 1, 1) := by decide +kernel
theorem dX0_packColumn_1 : decode cX0_packColumn 1 = .ok (.bipush 16, 2) := by decide +kernel
theorem dX0_packColumn_3 : decode cX0_packColumn 3 = .ok (.imul, 1) := by decide +kernel
theorem dX0_packColumn_4 : decode cX0_packColumn 4 = .ok (.iload_n 2, 1) := by decide +kernel
theorem dX0_packColumn_5 : decode cX0_packColumn 5 = .ok (.invokestatic 52, 3) := by decide +kernel
theorem dX0_packColumn_8 : decode cX0_packColumn 8 = .ok (.istore_n 3, 1) := by decide +kernel
theorem dX0_packColumn_9 : decode cX0_packColumn 9 = .ok (.iload_n 1, 1) := by decide +kernel
theorem dX0_packColumn_10 : decode cX0_packColumn 10 = .ok (.iload_n 2, 1) := by decide +kernel
theorem dX0_packColumn_11 : decode cX0_packColumn 11 = .ok (.invokestatic 123, 3) := by decide +kernel
theorem dX0_packColumn_14 : decode cX0_packColumn 14 = .ok (.istore 4, 2) := by decide +kernel
theorem dX0_packColumn_16 : decode cX0_packColumn 16 = .ok (.iload_n 2, 1) := by decide +kernel
theorem dX0_packColumn_17 : decode cX0_packColumn 17 = .ok (.iconst 3, 1) := by decide +kernel
theorem dX0_packColumn_18 : decode cX0_packColumn 18 = .ok (.if_icmp .ne 8, 3) := by decide +kernel
theorem dX0_packColumn_21 : decode cX0_packColumn 21 = .ok (.bipush 64, 2) := by decide +kernel
theorem dX0_packColumn_23 : decode cX0_packColumn 23 = .ok (.goto 5, 3) := by decide +kernel
theorem dX0_packColumn_26 : decode cX0_packColumn 26 = .ok (.bipush 32, 2) := by decide +kernel
theorem dX0_packColumn_28 : decode cX0_packColumn 28 = .ok (.istore 5, 2) := by decide +kernel
theorem dX0_packColumn_30 : decode cX0_packColumn 30 = .ok (.aload_n 0, 1) := by decide +kernel
theorem dX0_packColumn_31 : decode cX0_packColumn 31 = .ok (.iload_n 3, 1) := by decide +kernel
theorem dX0_packColumn_32 : decode cX0_packColumn 32 = .ok (.iload 4, 2) := by decide +kernel
theorem dX0_packColumn_34 : decode cX0_packColumn 34 = .ok (.invokevirtual 162, 3) := by decide +kernel
theorem dX0_packColumn_37 : decode cX0_packColumn 37 = .ok (.aload_n 0, 1) := by decide +kernel
theorem dX0_packColumn_38 : decode cX0_packColumn 38 = .ok (.iload_n 3, 1) := by decide +kernel
theorem dX0_packColumn_39 : decode cX0_packColumn 39 = .ok (.invokevirtual 165, 3) := by decide +kernel
theorem dX0_packColumn_42 : decode cX0_packColumn 42 = .ok (.istore 6, 2) := by decide +kernel
theorem dX0_packColumn_44 : decode cX0_packColumn 44 = .ok (.aload_n 0, 1) := by decide +kernel
theorem dX0_packColumn_45 : decode cX0_packColumn 45 = .ok (.getfield 33, 3) := by decide +kernel
theorem dX0_packColumn_48 : decode cX0_packColumn 48 = .ok (.iload 4, 2) := by decide +kernel
theorem dX0_packColumn_50 : decode cX0_packColumn 50 = .ok (.laload, 1) := by decide +kernel
theorem dX0_packColumn_51 : decode cX0_packColumn 51 = .ok (.aload_n 0, 1) := by decide +kernel
theorem dX0_packColumn_52 : decode cX0_packColumn 52 = .ok (.getfield 30, 3) := by decide +kernel
theorem dX0_packColumn_55 : decode cX0_packColumn 55 = .ok (.iload 4, 2) := by decide +kernel
theorem dX0_packColumn_57 : decode cX0_packColumn 57 = .ok (.laload, 1) := by decide +kernel
theorem dX0_packColumn_58 : decode cX0_packColumn 58 = .ok (.lsub, 1) := by decide +kernel
theorem dX0_packColumn_59 : decode cX0_packColumn 59 = .ok (.invokestatic 169, 3) := by decide +kernel
theorem dX0_packColumn_62 : decode cX0_packColumn 62 = .ok (.istore 7, 2) := by decide +kernel
theorem dX0_packColumn_64 : decode cX0_packColumn 64 = .ok (.aload_n 0, 1) := by decide +kernel
theorem dX0_packColumn_65 : decode cX0_packColumn 65 = .ok (.getfield 36, 3) := by decide +kernel
theorem dX0_packColumn_68 : decode cX0_packColumn 68 = .ok (.iload 4, 2) := by decide +kernel
theorem dX0_packColumn_70 : decode cX0_packColumn 70 = .ok (.iconst 0, 1) := by decide +kernel
theorem dX0_packColumn_71 : decode cX0_packColumn 71 = .ok (.iastore, 1) := by decide +kernel
theorem dX0_packColumn_72 : decode cX0_packColumn 72 = .ok (.aload_n 0, 1) := by decide +kernel
theorem dX0_packColumn_73 : decode cX0_packColumn 73 = .ok (.getfield 39, 3) := by decide +kernel
theorem dX0_packColumn_76 : decode cX0_packColumn 76 = .ok (.iload 4, 2) := by decide +kernel
theorem dX0_packColumn_78 : decode cX0_packColumn 78 = .ok (.bipush 16, 2) := by decide +kernel
theorem dX0_packColumn_80 : decode cX0_packColumn 80 = .ok (.iload 5, 2) := by decide +kernel
theorem dX0_packColumn_82 : decode cX0_packColumn 82 = .ok (.imul, 1) := by decide +kernel
theorem dX0_packColumn_83 : decode cX0_packColumn 83 = .ok (.iastore, 1) := by decide +kernel
theorem dX0_packColumn_84 : decode cX0_packColumn 84 = .ok (.aload_n 0, 1) := by decide +kernel
theorem dX0_packColumn_85 : decode cX0_packColumn 85 = .ok (.iload 4, 2) := by decide +kernel
theorem dX0_packColumn_87 : decode cX0_packColumn 87 = .ok (.iconst 1, 1) := by decide +kernel
theorem dX0_packColumn_88 : decode cX0_packColumn 88 = .ok (.aload_n 0, 1) := by decide +kernel
theorem dX0_packColumn_89 : decode cX0_packColumn 89 = .ok (.iload_n 3, 1) := by decide +kernel
theorem dX0_packColumn_90 : decode cX0_packColumn 90 = .ok (.invokevirtual 173, 3) := by decide +kernel
theorem dX0_packColumn_93 : decode cX0_packColumn 93 = .ok (.iload 5, 2) := by decide +kernel
theorem dX0_packColumn_95 : decode cX0_packColumn 95 = .ok (.iconst 5, 1) := by decide +kernel
theorem dX0_packColumn_96 : decode cX0_packColumn 96 = .ok (.iadd, 1) := by decide +kernel
theorem dX0_packColumn_97 : decode cX0_packColumn 97 = .ok (.imul, 1) := by decide +kernel
theorem dX0_packColumn_98 : decode cX0_packColumn 98 = .ok (.invokevirtual 176, 3) := by decide +kernel
theorem dX0_packColumn_101 : decode cX0_packColumn 101 = .ok (.aload_n 0, 1) := by decide +kernel
theorem dX0_packColumn_102 : decode cX0_packColumn 102 = .ok (.iload 4, 2) := by decide +kernel
theorem dX0_packColumn_104 : decode cX0_packColumn 104 = .ok (.iconst 2, 1) := by decide +kernel
theorem dX0_packColumn_105 : decode cX0_packColumn 105 = .ok (.iload 6, 2) := by decide +kernel
theorem dX0_packColumn_107 : decode cX0_packColumn 107 = .ok (.iload 5, 2) := by decide +kernel
theorem dX0_packColumn_109 : decode cX0_packColumn 109 = .ok (.imul, 1) := by decide +kernel
theorem dX0_packColumn_110 : decode cX0_packColumn 110 = .ok (.bipush 16, 2) := by decide +kernel
theorem dX0_packColumn_112 : decode cX0_packColumn 112 = .ok (.iload 6, 2) := by decide +kernel
theorem dX0_packColumn_114 : decode cX0_packColumn 114 = .ok (.iconst 1, 1) := by decide +kernel
theorem dX0_packColumn_115 : decode cX0_packColumn 115 = .ok (.isub, 1) := by decide +kernel
theorem dX0_packColumn_116 : decode cX0_packColumn 116 = .ok (.i2l, 1) := by decide +kernel
theorem dX0_packColumn_117 : decode cX0_packColumn 117 = .ok (.invokestatic 169, 3) := by decide +kernel
theorem dX0_packColumn_120 : decode cX0_packColumn 120 = .ok (.imul, 1) := by decide +kernel
theorem dX0_packColumn_121 : decode cX0_packColumn 121 = .ok (.iadd, 1) := by decide +kernel
theorem dX0_packColumn_122 : decode cX0_packColumn 122 = .ok (.invokevirtual 176, 3) := by decide +kernel
theorem dX0_packColumn_125 : decode cX0_packColumn 125 = .ok (.aload_n 0, 1) := by decide +kernel
theorem dX0_packColumn_126 : decode cX0_packColumn 126 = .ok (.iload 4, 2) := by decide +kernel
theorem dX0_packColumn_128 : decode cX0_packColumn 128 = .ok (.iconst 3, 1) := by decide +kernel
theorem dX0_packColumn_129 : decode cX0_packColumn 129 = .ok (.iload 5, 2) := by decide +kernel
theorem dX0_packColumn_131 : decode cX0_packColumn 131 = .ok (.bipush 7, 2) := by decide +kernel
theorem dX0_packColumn_133 : decode cX0_packColumn 133 = .ok (.iadd, 1) := by decide +kernel
theorem dX0_packColumn_134 : decode cX0_packColumn 134 = .ok (.bipush 16, 2) := by decide +kernel
theorem dX0_packColumn_136 : decode cX0_packColumn 136 = .ok (.iload 7, 2) := by decide +kernel
theorem dX0_packColumn_138 : decode cX0_packColumn 138 = .ok (.imul, 1) := by decide +kernel
theorem dX0_packColumn_139 : decode cX0_packColumn 139 = .ok (.iadd, 1) := by decide +kernel
theorem dX0_packColumn_140 : decode cX0_packColumn 140 = .ok (.invokevirtual 176, 3) := by decide +kernel
theorem dX0_packColumn_143 : decode cX0_packColumn 143 = .ok (.return_, 1) := by decide +kernel
theorem dX0_offerWay_0 : decode cX0_offerWay 0 = .ok (.iload_n 3, 1) := by decide +kernel
theorem dX0_offerWay_1 : decode cX0_offerWay 1 = .ok (.aload_n 0, 1) := by decide +kernel
theorem dX0_offerWay_2 : decode cX0_offerWay 2 = .ok (.getfield 39, 3) := by decide +kernel
theorem dX0_offerWay_5 : decode cX0_offerWay 5 = .ok (.iload_n 1, 1) := by decide +kernel
theorem dX0_offerWay_6 : decode cX0_offerWay 6 = .ok (.iaload, 1) := by decide +kernel
theorem dX0_offerWay_7 : decode cX0_offerWay 7 = .ok (.if_icmp .ge 17, 3) := by decide +kernel
theorem dX0_offerWay_10 : decode cX0_offerWay 10 = .ok (.aload_n 0, 1) := by decide +kernel
theorem dX0_offerWay_11 : decode cX0_offerWay 11 = .ok (.getfield 36, 3) := by decide +kernel
theorem dX0_offerWay_14 : decode cX0_offerWay 14 = .ok (.iload_n 1, 1) := by decide +kernel
theorem dX0_offerWay_15 : decode cX0_offerWay 15 = .ok (.iload_n 2, 1) := by decide +kernel
theorem dX0_offerWay_16 : decode cX0_offerWay 16 = .ok (.iastore, 1) := by decide +kernel
theorem dX0_offerWay_17 : decode cX0_offerWay 17 = .ok (.aload_n 0, 1) := by decide +kernel
theorem dX0_offerWay_18 : decode cX0_offerWay 18 = .ok (.getfield 39, 3) := by decide +kernel
theorem dX0_offerWay_21 : decode cX0_offerWay 21 = .ok (.iload_n 1, 1) := by decide +kernel
theorem dX0_offerWay_22 : decode cX0_offerWay 22 = .ok (.iload_n 3, 1) := by decide +kernel
theorem dX0_offerWay_23 : decode cX0_offerWay 23 = .ok (.iastore, 1) := by decide +kernel
theorem dX0_offerWay_24 : decode cX0_offerWay 24 = .ok (.return_, 1) := by decide +kernel
theorem dX0_noteBounds_0 : decode cX0_noteBounds 0 = .ok (.aload_n 0, 1) := by decide +kernel
theorem dX0_noteBounds_1 : decode cX0_noteBounds 1 = .ok (.getfield 9, 3) := by decide +kernel
theorem dX0_noteBounds_4 : decode cX0_noteBounds 4 = .ok (.iload_n 1, 1) := by decide +kernel
theorem dX0_noteBounds_5 : decode cX0_noteBounds 5 = .ok (.laload, 1) := by decide +kernel
theorem dX0_noteBounds_6 : decode cX0_noteBounds 6 = .ok (.lstore_n 3, 1) := by decide +kernel
theorem dX0_noteBounds_7 : decode cX0_noteBounds 7 = .ok (.aload_n 0, 1) := by decide +kernel
theorem dX0_noteBounds_8 : decode cX0_noteBounds 8 = .ok (.getfield 9, 3) := by decide +kernel
theorem dX0_noteBounds_11 : decode cX0_noteBounds 11 = .ok (.iload_n 1, 1) := by decide +kernel
theorem dX0_noteBounds_12 : decode cX0_noteBounds 12 = .ok (.laload, 1) := by decide +kernel
theorem dX0_noteBounds_13 : decode cX0_noteBounds 13 = .ok (.lstore 5, 2) := by decide +kernel
theorem dX0_noteBounds_15 : decode cX0_noteBounds 15 = .ok (.iload_n 1, 1) := by decide +kernel
theorem dX0_noteBounds_16 : decode cX0_noteBounds 16 = .ok (.iconst 1, 1) := by decide +kernel
theorem dX0_noteBounds_17 : decode cX0_noteBounds 17 = .ok (.iadd, 1) := by decide +kernel
theorem dX0_noteBounds_18 : decode cX0_noteBounds 18 = .ok (.istore 7, 2) := by decide +kernel
theorem dX0_noteBounds_20 : decode cX0_noteBounds 20 = .ok (.iload 7, 2) := by decide +kernel
theorem dX0_noteBounds_22 : decode cX0_noteBounds 22 = .ok (.iload_n 1, 1) := by decide +kernel
theorem dX0_noteBounds_23 : decode cX0_noteBounds 23 = .ok (.bipush 16, 2) := by decide +kernel
theorem dX0_noteBounds_25 : decode cX0_noteBounds 25 = .ok (.iadd, 1) := by decide +kernel
theorem dX0_noteBounds_26 : decode cX0_noteBounds 26 = .ok (.if_icmp .ge 35, 3) := by decide +kernel
theorem dX0_noteBounds_29 : decode cX0_noteBounds 29 = .ok (.lload_n 3, 1) := by decide +kernel
theorem dX0_noteBounds_30 : decode cX0_noteBounds 30 = .ok (.aload_n 0, 1) := by decide +kernel
theorem dX0_noteBounds_31 : decode cX0_noteBounds 31 = .ok (.getfield 9, 3) := by decide +kernel
theorem dX0_noteBounds_34 : decode cX0_noteBounds 34 = .ok (.iload 7, 2) := by decide +kernel
theorem dX0_noteBounds_36 : decode cX0_noteBounds 36 = .ok (.laload, 1) := by decide +kernel
theorem dX0_noteBounds_37 : decode cX0_noteBounds 37 = .ok (.invokestatic 180, 3) := by decide +kernel
theorem dX0_noteBounds_40 : decode cX0_noteBounds 40 = .ok (.lstore_n 3, 1) := by decide +kernel
theorem dX0_noteBounds_41 : decode cX0_noteBounds 41 = .ok (.lload 5, 2) := by decide +kernel
theorem dX0_noteBounds_43 : decode cX0_noteBounds 43 = .ok (.aload_n 0, 1) := by decide +kernel
theorem dX0_noteBounds_44 : decode cX0_noteBounds 44 = .ok (.getfield 9, 3) := by decide +kernel
theorem dX0_noteBounds_47 : decode cX0_noteBounds 47 = .ok (.iload 7, 2) := by decide +kernel
theorem dX0_noteBounds_49 : decode cX0_noteBounds 49 = .ok (.laload, 1) := by decide +kernel
theorem dX0_noteBounds_50 : decode cX0_noteBounds 50 = .ok (.invokestatic 183, 3) := by decide +kernel
theorem dX0_noteBounds_53 : decode cX0_noteBounds 53 = .ok (.lstore 5, 2) := by decide +kernel
theorem dX0_noteBounds_55 : decode cX0_noteBounds 55 = .ok (.iinc 7 1, 3) := by decide +kernel
theorem dX0_noteBounds_58 : decode cX0_noteBounds 58 = .ok (.goto (-38), 3) := by decide +kernel
theorem dX0_noteBounds_61 : decode cX0_noteBounds 61 = .ok (.aload_n 0, 1) := by decide +kernel
theorem dX0_noteBounds_62 : decode cX0_noteBounds 62 = .ok (.getfield 30, 3) := by decide +kernel
theorem dX0_noteBounds_65 : decode cX0_noteBounds 65 = .ok (.iload_n 2, 1) := by decide +kernel
theorem dX0_noteBounds_66 : decode cX0_noteBounds 66 = .ok (.lload_n 3, 1) := by decide +kernel
theorem dX0_noteBounds_67 : decode cX0_noteBounds 67 = .ok (.lastore, 1) := by decide +kernel
theorem dX0_noteBounds_68 : decode cX0_noteBounds 68 = .ok (.aload_n 0, 1) := by decide +kernel
theorem dX0_noteBounds_69 : decode cX0_noteBounds 69 = .ok (.getfield 33, 3) := by decide +kernel
theorem dX0_noteBounds_72 : decode cX0_noteBounds 72 = .ok (.iload_n 2, 1) := by decide +kernel
theorem dX0_noteBounds_73 : decode cX0_noteBounds 73 = .ok (.lload 5, 2) := by decide +kernel
theorem dX0_noteBounds_75 : decode cX0_noteBounds 75 = .ok (.lastore, 1) := by decide +kernel
theorem dX0_noteBounds_76 : decode cX0_noteBounds 76 = .ok (.return_, 1) := by decide +kernel
theorem dX0_runsOfCells_0 : decode cX0_runsOfCells 0 = .ok (.iconst 1, 1) := by decide +kernel
theorem dX0_runsOfCells_1 : decode cX0_runsOfCells 1 = .ok (.istore_n 2, 1) := by decide +kernel
theorem dX0_runsOfCells_2 : decode cX0_runsOfCells 2 = .ok (.iload_n 1, 1) := by decide +kernel
theorem dX0_runsOfCells_3 : decode cX0_runsOfCells 3 = .ok (.iconst 1, 1) := by decide +kernel
theorem dX0_runsOfCells_4 : decode cX0_runsOfCells 4 = .ok (.iadd, 1) := by decide +kernel
theorem dX0_runsOfCells_5 : decode cX0_runsOfCells 5 = .ok (.istore_n 3, 1) := by decide +kernel
theorem dX0_runsOfCells_6 : decode cX0_runsOfCells 6 = .ok (.iload_n 3, 1) := by decide +kernel
theorem dX0_runsOfCells_7 : decode cX0_runsOfCells 7 = .ok (.iload_n 1, 1) := by decide +kernel
theorem dX0_runsOfCells_8 : decode cX0_runsOfCells 8 = .ok (.bipush 16, 2) := by decide +kernel
theorem dX0_runsOfCells_10 : decode cX0_runsOfCells 10 = .ok (.iadd, 1) := by decide +kernel
theorem dX0_runsOfCells_11 : decode cX0_runsOfCells 11 = .ok (.if_icmp .ge 30, 3) := by decide +kernel
theorem dX0_runsOfCells_14 : decode cX0_runsOfCells 14 = .ok (.aload_n 0, 1) := by decide +kernel
theorem dX0_runsOfCells_15 : decode cX0_runsOfCells 15 = .ok (.getfield 9, 3) := by decide +kernel
theorem dX0_runsOfCells_18 : decode cX0_runsOfCells 18 = .ok (.iload_n 3, 1) := by decide +kernel
theorem dX0_runsOfCells_19 : decode cX0_runsOfCells 19 = .ok (.laload, 1) := by decide +kernel
theorem dX0_runsOfCells_20 : decode cX0_runsOfCells 20 = .ok (.aload_n 0, 1) := by decide +kernel
theorem dX0_runsOfCells_21 : decode cX0_runsOfCells 21 = .ok (.getfield 9, 3) := by decide +kernel
theorem dX0_runsOfCells_24 : decode cX0_runsOfCells 24 = .ok (.iload_n 3, 1) := by decide +kernel
theorem dX0_runsOfCells_25 : decode cX0_runsOfCells 25 = .ok (.iconst 1, 1) := by decide +kernel
theorem dX0_runsOfCells_26 : decode cX0_runsOfCells 26 = .ok (.isub, 1) := by decide +kernel
theorem dX0_runsOfCells_27 : decode cX0_runsOfCells 27 = .ok (.laload, 1) := by decide +kernel
theorem dX0_runsOfCells_28 : decode cX0_runsOfCells 28 = .ok (.lcmp, 1) := by decide +kernel
theorem dX0_runsOfCells_29 : decode cX0_runsOfCells 29 = .ok (.ifCond .eq 6, 3) := by decide +kernel
theorem dX0_runsOfCells_32 : decode cX0_runsOfCells 32 = .ok (.iinc 2 1, 3) := by decide +kernel
theorem dX0_runsOfCells_35 : decode cX0_runsOfCells 35 = .ok (.iinc 3 1, 3) := by decide +kernel
theorem dX0_runsOfCells_38 : decode cX0_runsOfCells 38 = .ok (.goto (-32), 3) := by decide +kernel
theorem dX0_runsOfCells_41 : decode cX0_runsOfCells 41 = .ok (.iload_n 2, 1) := by decide +kernel
theorem dX0_runsOfCells_42 : decode cX0_runsOfCells 42 = .ok (.ireturn, 1) := by decide +kernel
theorem dX0_differentCells_0 : decode cX0_differentCells 0 = .ok (.iconst 0, 1) := by decide +kernel
theorem dX0_differentCells_1 : decode cX0_differentCells 1 = .ok (.istore_n 2, 1) := by decide +kernel
theorem dX0_differentCells_2 : decode cX0_differentCells 2 = .ok (.iload_n 1, 1) := by decide +kernel
theorem dX0_differentCells_3 : decode cX0_differentCells 3 = .ok (.istore_n 3, 1) := by decide +kernel
theorem dX0_differentCells_4 : decode cX0_differentCells 4 = .ok (.iload_n 3, 1) := by decide +kernel
theorem dX0_differentCells_5 : decode cX0_differentCells 5 = .ok (.iload_n 1, 1) := by decide +kernel
theorem dX0_differentCells_6 : decode cX0_differentCells 6 = .ok (.bipush 16, 2) := by decide +kernel
theorem dX0_differentCells_8 : decode cX0_differentCells 8 = .ok (.iadd, 1) := by decide +kernel
theorem dX0_differentCells_9 : decode cX0_differentCells 9 = .ok (.if_icmp .ge 21, 3) := by decide +kernel
theorem dX0_differentCells_12 : decode cX0_differentCells 12 = .ok (.aload_n 0, 1) := by decide +kernel
theorem dX0_differentCells_13 : decode cX0_differentCells 13 = .ok (.iload_n 1, 1) := by decide +kernel
theorem dX0_differentCells_14 : decode cX0_differentCells 14 = .ok (.iload_n 3, 1) := by decide +kernel
theorem dX0_differentCells_15 : decode cX0_differentCells 15 = .ok (.invokevirtual 186, 3) := by decide +kernel
theorem dX0_differentCells_18 : decode cX0_differentCells 18 = .ok (.ifCond .ne 6, 3) := by decide +kernel
theorem dX0_differentCells_21 : decode cX0_differentCells 21 = .ok (.iinc 2 1, 3) := by decide +kernel
theorem dX0_differentCells_24 : decode cX0_differentCells 24 = .ok (.iinc 3 1, 3) := by decide +kernel
theorem dX0_differentCells_27 : decode cX0_differentCells 27 = .ok (.goto (-23), 3) := by decide +kernel
theorem dX0_differentCells_30 : decode cX0_differentCells 30 = .ok (.iload_n 2, 1) := by decide +kernel
theorem dX0_differentCells_31 : decode cX0_differentCells 31 = .ok (.ireturn, 1) := by decide +kernel
theorem dX0_stoodBefore_0 : decode cX0_stoodBefore 0 = .ok (.iload_n 1, 1) := by decide +kernel
theorem dX0_stoodBefore_1 : decode cX0_stoodBefore 1 = .ok (.istore_n 3, 1) := by decide +kernel
theorem dX0_stoodBefore_2 : decode cX0_stoodBefore 2 = .ok (.iload_n 3, 1) := by decide +kernel
theorem dX0_stoodBefore_3 : decode cX0_stoodBefore 3 = .ok (.iload_n 2, 1) := by decide +kernel
theorem dX0_stoodBefore_4 : decode cX0_stoodBefore 4 = .ok (.if_icmp .ge 27, 3) := by decide +kernel
theorem dX0_stoodBefore_7 : decode cX0_stoodBefore 7 = .ok (.aload_n 0, 1) := by decide +kernel
theorem dX0_stoodBefore_8 : decode cX0_stoodBefore 8 = .ok (.getfield 9, 3) := by decide +kernel
theorem dX0_stoodBefore_11 : decode cX0_stoodBefore 11 = .ok (.iload_n 3, 1) := by decide +kernel
theorem dX0_stoodBefore_12 : decode cX0_stoodBefore 12 = .ok (.laload, 1) := by decide +kernel
theorem dX0_stoodBefore_13 : decode cX0_stoodBefore 13 = .ok (.aload_n 0, 1) := by decide +kernel
theorem dX0_stoodBefore_14 : decode cX0_stoodBefore 14 = .ok (.getfield 9, 3) := by decide +kernel
theorem dX0_stoodBefore_17 : decode cX0_stoodBefore 17 = .ok (.iload_n 2, 1) := by decide +kernel
theorem dX0_stoodBefore_18 : decode cX0_stoodBefore 18 = .ok (.laload, 1) := by decide +kernel
theorem dX0_stoodBefore_19 : decode cX0_stoodBefore 19 = .ok (.lcmp, 1) := by decide +kernel
theorem dX0_stoodBefore_20 : decode cX0_stoodBefore 20 = .ok (.ifCond .ne 5, 3) := by decide +kernel
theorem dX0_stoodBefore_23 : decode cX0_stoodBefore 23 = .ok (.iconst 1, 1) := by decide +kernel
theorem dX0_stoodBefore_24 : decode cX0_stoodBefore 24 = .ok (.ireturn, 1) := by decide +kernel
theorem dX0_stoodBefore_25 : decode cX0_stoodBefore 25 = .ok (.iinc 3 1, 3) := by decide +kernel
theorem dX0_stoodBefore_28 : decode cX0_stoodBefore 28 = .ok (.goto (-26), 3) := by decide +kernel
theorem dX0_stoodBefore_31 : decode cX0_stoodBefore 31 = .ok (.iconst 0, 1) := by decide +kernel
theorem dX0_stoodBefore_32 : decode cX0_stoodBefore 32 = .ok (.ireturn, 1) := by decide +kernel
theorem dX0_widthOf_0 : decode cX0_widthOf 0 = .ok (.iconst 0, 1) := by decide +kernel
theorem dX0_widthOf_1 : decode cX0_widthOf 1 = .ok (.istore_n 2, 1) := by decide +kernel
theorem dX0_widthOf_2 : decode cX0_widthOf 2 = .ok (.iload_n 2, 1) := by decide +kernel
theorem dX0_widthOf_3 : decode cX0_widthOf 3 = .ok (.bipush 64, 2) := by decide +kernel
theorem dX0_widthOf_5 : decode cX0_widthOf 5 = .ok (.if_icmp .ge 17, 3) := by decide +kernel
theorem dX0_widthOf_8 : decode cX0_widthOf 8 = .ok (.lload_n 0, 1) := by decide +kernel
theorem dX0_widthOf_9 : decode cX0_widthOf 9 = .ok (.iload_n 2, 1) := by decide +kernel
theorem dX0_widthOf_10 : decode cX0_widthOf 10 = .ok (.lushr, 1) := by decide +kernel
theorem dX0_widthOf_11 : decode cX0_widthOf 11 = .ok (.lconst 0, 1) := by decide +kernel
theorem dX0_widthOf_12 : decode cX0_widthOf 12 = .ok (.lcmp, 1) := by decide +kernel
theorem dX0_widthOf_13 : decode cX0_widthOf 13 = .ok (.ifCond .eq 9, 3) := by decide +kernel
theorem dX0_widthOf_16 : decode cX0_widthOf 16 = .ok (.iinc 2 1, 3) := by decide +kernel
theorem dX0_widthOf_19 : decode cX0_widthOf 19 = .ok (.goto (-17), 3) := by decide +kernel
theorem dX0_widthOf_22 : decode cX0_widthOf 22 = .ok (.iload_n 2, 1) := by decide +kernel
theorem dX0_widthOf_23 : decode cX0_widthOf 23 = .ok (.ireturn, 1) := by decide +kernel
end
section
/-! rows that decode the model -/
theorem dX1_init_0 : decode cX1_init 0 = .ok (.aload_n 0, 1) := by decide +kernel
theorem dX1_init_1 : decode cX1_init 1 = .ok (.invokespecial 1, 3) := by decide +kernel
theorem dX1_init_4 : decode cX1_init 4 = .ok (.aload_n 0, 1) := by decide +kernel
theorem dX1_init_5 : decode cX1_init 5 = .ok (.sipush 512, 3) := by decide +kernel
theorem dX1_init_8 : decode cX1_init 8 = .ok (.newarray .long, 2) := by decide +kernel
theorem dX1_init_10 : decode cX1_init 10 = .ok (.putfield 7, 3) := by decide +kernel
theorem dX1_init_13 : decode cX1_init 13 = .ok (.aload_n 0, 1) := by decide +kernel
theorem dX1_init_14 : decode cX1_init 14 = .ok (.iconst 3, 1) := by decide +kernel
theorem dX1_init_15 : decode cX1_init 15 = .ok (.newarray .int, 2) := by decide +kernel
theorem dX1_init_17 : decode cX1_init 17 = .ok (.putfield 13, 3) := by decide +kernel
theorem dX1_init_20 : decode cX1_init 20 = .ok (.aload_n 0, 1) := by decide +kernel
theorem dX1_init_21 : decode cX1_init 21 = .ok (.iconst 3, 1) := by decide +kernel
theorem dX1_init_22 : decode cX1_init 22 = .ok (.newarray .int, 2) := by decide +kernel
theorem dX1_init_24 : decode cX1_init 24 = .ok (.putfield 17, 3) := by decide +kernel
theorem dX1_init_27 : decode cX1_init 27 = .ok (.aload_n 0, 1) := by decide +kernel
theorem dX1_init_28 : decode cX1_init 28 = .ok (.iconst 3, 1) := by decide +kernel
theorem dX1_init_29 : decode cX1_init 29 = .ok (.newarray .long, 2) := by decide +kernel
theorem dX1_init_31 : decode cX1_init 31 = .ok (.putfield 20, 3) := by decide +kernel
theorem dX1_init_34 : decode cX1_init 34 = .ok (.return_, 1) := by decide +kernel
theorem dX1_thrown_0 : decode cX1_thrown 0 = .ok (.aload_n 0, 1) := by decide +kernel
theorem dX1_thrown_1 : decode cX1_thrown 1 = .ok (.getfield 23, 3) := by decide +kernel
theorem dX1_thrown_4 : decode cX1_thrown 4 = .ok (.ireturn, 1) := by decide +kernel
theorem dX1_isColumn_0 : decode cX1_isColumn 0 = .ok (.iload_n 0, 1) := by decide +kernel
theorem dX1_isColumn_1 : decode cX1_isColumn 1 = .ok (.ifCond .lt 12, 3) := by decide +kernel
theorem dX1_isColumn_4 : decode cX1_isColumn 4 = .ok (.iload_n 0, 1) := by decide +kernel
theorem dX1_isColumn_5 : decode cX1_isColumn 5 = .ok (.iconst 3, 1) := by decide +kernel
theorem dX1_isColumn_6 : decode cX1_isColumn 6 = .ok (.if_icmp .gt 7, 3) := by decide +kernel
theorem dX1_isColumn_9 : decode cX1_isColumn 9 = .ok (.iconst 1, 1) := by decide +kernel
theorem dX1_isColumn_10 : decode cX1_isColumn 10 = .ok (.goto 4, 3) := by decide +kernel
theorem dX1_isColumn_13 : decode cX1_isColumn 13 = .ok (.iconst 0, 1) := by decide +kernel
theorem dX1_isColumn_14 : decode cX1_isColumn 14 = .ok (.ireturn, 1) := by decide +kernel
theorem dX1_append_0 : decode cX1_append 0 = .ok (.aload_n 0, 1) := by decide +kernel
theorem dX1_append_1 : decode cX1_append 1 = .ok (.aload_n 0, 1) := by decide +kernel
theorem dX1_append_2 : decode cX1_append 2 = .ok (.getfield 27, 3) := by decide +kernel
theorem dX1_append_5 : decode cX1_append 5 = .ok (.sipush 128, 3) := by decide +kernel
theorem dX1_append_8 : decode cX1_append 8 = .ok (.if_icmp .ne 7, 3) := by decide +kernel
theorem dX1_append_11 : decode cX1_append 11 = .ok (.iconst 1, 1) := by decide +kernel
theorem dX1_append_12 : decode cX1_append 12 = .ok (.goto 4, 3) := by decide +kernel
theorem dX1_append_15 : decode cX1_append 15 = .ok (.iconst 0, 1) := by decide +kernel
theorem dX1_append_16 : decode cX1_append 16 = .ok (.putfield 23, 3) := by decide +kernel
theorem dX1_append_19 : decode cX1_append 19 = .ok (.aload_n 0, 1) := by decide +kernel
theorem dX1_append_20 : decode cX1_append 20 = .ok (.getfield 23, 3) := by decide +kernel
theorem dX1_append_23 : decode cX1_append 23 = .ok (.ifCond .le 5, 3) := by decide +kernel
theorem dX1_append_26 : decode cX1_append 26 = .ok (.iconst 0, 1) := by decide +kernel
theorem dX1_append_27 : decode cX1_append 27 = .ok (.ireturn, 1) := by decide +kernel
theorem dX1_append_28 : decode cX1_append 28 = .ok (.aload_n 0, 1) := by decide +kernel
theorem dX1_append_29 : decode cX1_append 29 = .ok (.getfield 7, 3) := by decide +kernel
theorem dX1_append_32 : decode cX1_append 32 = .ok (.iconst 4, 1) := by decide +kernel
theorem dX1_append_33 : decode cX1_append 33 = .ok (.aload_n 0, 1) := by decide +kernel
theorem dX1_append_34 : decode cX1_append 34 = .ok (.getfield 27, 3) := by decide +kernel
theorem dX1_append_37 : decode cX1_append 37 = .ok (.imul, 1) := by decide +kernel
theorem dX1_append_38 : decode cX1_append 38 = .ok (.iload_n 1, 1) := by decide +kernel
theorem dX1_append_39 : decode cX1_append 39 = .ok (.i2l, 1) := by decide +kernel
theorem dX1_append_40 : decode cX1_append 40 = .ok (.lastore, 1) := by decide +kernel
theorem dX1_append_41 : decode cX1_append 41 = .ok (.aload_n 0, 1) := by decide +kernel
theorem dX1_append_42 : decode cX1_append 42 = .ok (.getfield 7, 3) := by decide +kernel
theorem dX1_append_45 : decode cX1_append 45 = .ok (.iconst 4, 1) := by decide +kernel
theorem dX1_append_46 : decode cX1_append 46 = .ok (.aload_n 0, 1) := by decide +kernel
theorem dX1_append_47 : decode cX1_append 47 = .ok (.getfield 27, 3) := by decide +kernel
theorem dX1_append_50 : decode cX1_append 50 = .ok (.imul, 1) := by decide +kernel
theorem dX1_append_51 : decode cX1_append 51 = .ok (.iconst 1, 1) := by decide +kernel
theorem dX1_append_52 : decode cX1_append 52 = .ok (.iadd, 1) := by decide +kernel
theorem dX1_append_53 : decode cX1_append 53 = .ok (.iload_n 2, 1) := by decide +kernel
theorem dX1_append_54 : decode cX1_append 54 = .ok (.i2l, 1) := by decide +kernel
theorem dX1_append_55 : decode cX1_append 55 = .ok (.lastore, 1) := by decide +kernel
theorem dX1_append_56 : decode cX1_append 56 = .ok (.aload_n 0, 1) := by decide +kernel
theorem dX1_append_57 : decode cX1_append 57 = .ok (.getfield 7, 3) := by decide +kernel
theorem dX1_append_60 : decode cX1_append 60 = .ok (.iconst 4, 1) := by decide +kernel
theorem dX1_append_61 : decode cX1_append 61 = .ok (.aload_n 0, 1) := by decide +kernel
theorem dX1_append_62 : decode cX1_append 62 = .ok (.getfield 27, 3) := by decide +kernel
theorem dX1_append_65 : decode cX1_append 65 = .ok (.imul, 1) := by decide +kernel
theorem dX1_append_66 : decode cX1_append 66 = .ok (.iconst 2, 1) := by decide +kernel
theorem dX1_append_67 : decode cX1_append 67 = .ok (.iadd, 1) := by decide +kernel
theorem dX1_append_68 : decode cX1_append 68 = .ok (.iload_n 3, 1) := by decide +kernel
theorem dX1_append_69 : decode cX1_append 69 = .ok (.i2l, 1) := by decide +kernel
theorem dX1_append_70 : decode cX1_append 70 = .ok (.lastore, 1) := by decide +kernel
theorem dX1_append_71 : decode cX1_append 71 = .ok (.aload_n 0, 1) := by decide +kernel
theorem dX1_append_72 : decode cX1_append 72 = .ok (.getfield 7, 3) := by decide +kernel
theorem dX1_append_75 : decode cX1_append 75 = .ok (.iconst 4, 1) := by decide +kernel
theorem dX1_append_76 : decode cX1_append 76 = .ok (.aload_n 0, 1) := by decide +kernel
theorem dX1_append_77 : decode cX1_append 77 = .ok (.getfield 27, 3) := by decide +kernel
theorem dX1_append_80 : decode cX1_append 80 = .ok (.imul, 1) := by decide +kernel
theorem dX1_append_81 : decode cX1_append 81 = .ok (.iconst 3, 1) := by decide +kernel
theorem dX1_append_82 : decode cX1_append 82 = .ok (.iadd, 1) := by decide +kernel
theorem dX1_append_83 : decode cX1_append 83 = .ok (.lload 4, 2) := by decide +kernel
theorem dX1_append_85 : decode cX1_append 85 = .ok (.lastore, 1) := by decide +kernel
theorem dX1_append_86 : decode cX1_append 86 = .ok (.aload_n 0, 1) := by decide +kernel
theorem dX1_append_87 : decode cX1_append 87 = .ok (.dup, 1) := by decide +kernel
theorem dX1_append_88 : decode cX1_append 88 = .ok (.getfield 27, 3) := by decide +kernel
theorem dX1_append_91 : decode cX1_append 91 = .ok (.iconst 1, 1) := by decide +kernel
theorem dX1_append_92 : decode cX1_append 92 = .ok (.iadd, 1) := by decide +kernel
theorem dX1_append_93 : decode cX1_append 93 = .ok (.putfield 27, 3) := by decide +kernel
theorem dX1_append_96 : decode cX1_append 96 = .ok (.aload_n 0, 1) := by decide +kernel
theorem dX1_append_97 : decode cX1_append 97 = .ok (.getfield 27, 3) := by decide +kernel
theorem dX1_append_100 : decode cX1_append 100 = .ok (.iconst 1, 1) := by decide +kernel
theorem dX1_append_101 : decode cX1_append 101 = .ok (.isub, 1) := by decide +kernel
theorem dX1_append_102 : decode cX1_append 102 = .ok (.ireturn, 1) := by decide +kernel
theorem dX1_rows_0 : decode cX1_rows 0 = .ok (.aload_n 0, 1) := by decide +kernel
theorem dX1_rows_1 : decode cX1_rows 1 = .ok (.iconst 0, 1) := by decide +kernel
theorem dX1_rows_2 : decode cX1_rows 2 = .ok (.putfield 23, 3) := by decide +kernel
theorem dX1_rows_5 : decode cX1_rows 5 = .ok (.aload_n 0, 1) := by decide +kernel
theorem dX1_rows_6 : decode cX1_rows 6 = .ok (.getfield 27, 3) := by decide +kernel
theorem dX1_rows_9 : decode cX1_rows 9 = .ok (.ireturn, 1) := by decide +kernel
theorem dX1_cell_0 : decode cX1_cell 0 = .ok (.aload_n 0, 1) := by decide +kernel
theorem dX1_cell_1 : decode cX1_cell 1 = .ok (.iload_n 2, 1) := by decide +kernel
theorem dX1_cell_2 : decode cX1_cell 2 = .ok (.invokestatic 30, 3) := by decide +kernel
theorem dX1_cell_5 : decode cX1_cell 5 = .ok (.ifCond .ne 7, 3) := by decide +kernel
theorem dX1_cell_8 : decode cX1_cell 8 = .ok (.iconst 1, 1) := by decide +kernel
theorem dX1_cell_9 : decode cX1_cell 9 = .ok (.goto 20, 3) := by decide +kernel
theorem dX1_cell_12 : decode cX1_cell 12 = .ok (.iload_n 1, 1) := by decide +kernel
theorem dX1_cell_13 : decode cX1_cell 13 = .ok (.ifCond .lt 11, 3) := by decide +kernel
theorem dX1_cell_16 : decode cX1_cell 16 = .ok (.iload_n 1, 1) := by decide +kernel
theorem dX1_cell_17 : decode cX1_cell 17 = .ok (.aload_n 0, 1) := by decide +kernel
theorem dX1_cell_18 : decode cX1_cell 18 = .ok (.getfield 27, 3) := by decide +kernel
theorem dX1_cell_21 : decode cX1_cell 21 = .ok (.if_icmp .lt 7, 3) := by decide +kernel
theorem dX1_cell_24 : decode cX1_cell 24 = .ok (.iconst 2, 1) := by decide +kernel
theorem dX1_cell_25 : decode cX1_cell 25 = .ok (.goto 4, 3) := by decide +kernel
theorem dX1_cell_28 : decode cX1_cell 28 = .ok (.iconst 0, 1) := by decide +kernel
theorem dX1_cell_29 : decode cX1_cell 29 = .ok (.putfield 23, 3) := by decide +kernel
theorem dX1_cell_32 : decode cX1_cell 32 = .ok (.aload_n 0, 1) := by decide +kernel
theorem dX1_cell_33 : decode cX1_cell 33 = .ok (.getfield 23, 3) := by decide +kernel
theorem dX1_cell_36 : decode cX1_cell 36 = .ok (.ifCond .ne 16, 3) := by decide +kernel
theorem dX1_cell_39 : decode cX1_cell 39 = .ok (.aload_n 0, 1) := by decide +kernel
theorem dX1_cell_40 : decode cX1_cell 40 = .ok (.getfield 7, 3) := by decide +kernel
theorem dX1_cell_43 : decode cX1_cell 43 = .ok (.iconst 4, 1) := by decide +kernel
theorem dX1_cell_44 : decode cX1_cell 44 = .ok (.iload_n 1, 1) := by decide +kernel
theorem dX1_cell_45 : decode cX1_cell 45 = .ok (.imul, 1) := by decide +kernel
theorem dX1_cell_46 : decode cX1_cell 46 = .ok (.iload_n 2, 1) := by decide +kernel
theorem dX1_cell_47 : decode cX1_cell 47 = .ok (.iadd, 1) := by decide +kernel
theorem dX1_cell_48 : decode cX1_cell 48 = .ok (.laload, 1) := by decide +kernel
theorem dX1_cell_49 : decode cX1_cell 49 = .ok (.goto 4, 3) := by decide +kernel
theorem dX1_cell_52 : decode cX1_cell 52 = .ok (.lconst 0, 1) := by decide +kernel
theorem dX1_cell_53 : decode cX1_cell 53 = .ok (.lreturn, 1) := by decide +kernel
theorem dX1_where_0 : decode cX1_where 0 = .ok (.aload_n 0, 1) := by decide +kernel
theorem dX1_where_1 : decode cX1_where 1 = .ok (.iload_n 1, 1) := by decide +kernel
theorem dX1_where_2 : decode cX1_where 2 = .ok (.invokestatic 30, 3) := by decide +kernel
theorem dX1_where_5 : decode cX1_where 5 = .ok (.ifCond .eq 12, 3) := by decide +kernel
theorem dX1_where_8 : decode cX1_where 8 = .ok (.iload_n 2, 1) := by decide +kernel
theorem dX1_where_9 : decode cX1_where 9 = .ok (.ifCond .lt 8, 3) := by decide +kernel
theorem dX1_where_12 : decode cX1_where 12 = .ok (.iload_n 2, 1) := by decide +kernel
theorem dX1_where_13 : decode cX1_where 13 = .ok (.iconst 5, 1) := by decide +kernel
theorem dX1_where_14 : decode cX1_where 14 = .ok (.if_icmp .le 7, 3) := by decide +kernel
theorem dX1_where_17 : decode cX1_where 17 = .ok (.iconst 1, 1) := by decide +kernel
theorem dX1_where_18 : decode cX1_where 18 = .ok (.goto 16, 3) := by decide +kernel
theorem dX1_where_21 : decode cX1_where 21 = .ok (.aload_n 0, 1) := by decide +kernel
theorem dX1_where_22 : decode cX1_where 22 = .ok (.getfield 34, 3) := by decide +kernel
theorem dX1_where_25 : decode cX1_where 25 = .ok (.iconst 3, 1) := by decide +kernel
theorem dX1_where_26 : decode cX1_where 26 = .ok (.if_icmp .ne 7, 3) := by decide +kernel
theorem dX1_where_29 : decode cX1_where 29 = .ok (.iconst 2, 1) := by decide +kernel
theorem dX1_where_30 : decode cX1_where 30 = .ok (.goto 4, 3) := by decide +kernel
theorem dX1_where_33 : decode cX1_where 33 = .ok (.iconst 0, 1) := by decide +kernel
theorem dX1_where_34 : decode cX1_where 34 = .ok (.putfield 23, 3) := by decide +kernel
theorem dX1_where_37 : decode cX1_where 37 = .ok (.aload_n 0, 1) := by decide +kernel
theorem dX1_where_38 : decode cX1_where 38 = .ok (.getfield 23, 3) := by decide +kernel
theorem dX1_where_41 : decode cX1_where 41 = .ok (.ifCond .le 5, 3) := by decide +kernel
theorem dX1_where_44 : decode cX1_where 44 = .ok (.iconst 0, 1) := by decide +kernel
theorem dX1_where_45 : decode cX1_where 45 = .ok (.ireturn, 1) := by decide +kernel
theorem dX1_where_46 : decode cX1_where 46 = .ok (.aload_n 0, 1) := by decide +kernel
theorem dX1_where_47 : decode cX1_where 47 = .ok (.getfield 13, 3) := by decide +kernel
theorem dX1_where_50 : decode cX1_where 50 = .ok (.aload_n 0, 1) := by decide +kernel
theorem dX1_where_51 : decode cX1_where 51 = .ok (.getfield 34, 3) := by decide +kernel
theorem dX1_where_54 : decode cX1_where 54 = .ok (.iload_n 1, 1) := by decide +kernel
theorem dX1_where_55 : decode cX1_where 55 = .ok (.iastore, 1) := by decide +kernel
theorem dX1_where_56 : decode cX1_where 56 = .ok (.aload_n 0, 1) := by decide +kernel
theorem dX1_where_57 : decode cX1_where 57 = .ok (.getfield 17, 3) := by decide +kernel
theorem dX1_where_60 : decode cX1_where 60 = .ok (.aload_n 0, 1) := by decide +kernel
theorem dX1_where_61 : decode cX1_where 61 = .ok (.getfield 34, 3) := by decide +kernel
theorem dX1_where_64 : decode cX1_where 64 = .ok (.iload_n 2, 1) := by decide +kernel
theorem dX1_where_65 : decode cX1_where 65 = .ok (.iastore, 1) := by decide +kernel
theorem dX1_where_66 : decode cX1_where 66 = .ok (.aload_n 0, 1) := by decide +kernel
theorem dX1_where_67 : decode cX1_where 67 = .ok (.getfield 20, 3) := by decide +kernel
theorem dX1_where_70 : decode cX1_where 70 = .ok (.aload_n 0, 1) := by decide +kernel
theorem dX1_where_71 : decode cX1_where 71 = .ok (.getfield 34, 3) := by decide +kernel
theorem dX1_where_74 : decode cX1_where 74 = .ok (.lload_n 3, 1) := by decide +kernel
theorem dX1_where_75 : decode cX1_where 75 = .ok (.lastore, 1) := by decide +kernel
theorem dX1_where_76 : decode cX1_where 76 = .ok (.aload_n 0, 1) := by decide +kernel
theorem dX1_where_77 : decode cX1_where 77 = .ok (.dup, 1) := by decide +kernel
theorem dX1_where_78 : decode cX1_where 78 = .ok (.getfield 34, 3) := by decide +kernel
theorem dX1_where_81 : decode cX1_where 81 = .ok (.iconst 1, 1) := by decide +kernel
theorem dX1_where_82 : decode cX1_where 82 = .ok (.iadd, 1) := by decide +kernel
theorem dX1_where_83 : decode cX1_where 83 = .ok (.putfield 34, 3) := by decide +kernel
theorem dX1_where_86 : decode cX1_where 86 = .ok (.aload_n 0, 1) := by decide +kernel
theorem dX1_where_87 : decode cX1_where 87 = .ok (.getfield 34, 3) := by decide +kernel
theorem dX1_where_90 : decode cX1_where 90 = .ok (.ireturn, 1) := by decide +kernel
theorem dX1_all_0 : decode cX1_all 0 = .ok (.aload_n 0, 1) := by decide +kernel
theorem dX1_all_1 : decode cX1_all 1 = .ok (.iconst 0, 1) := by decide +kernel
theorem dX1_all_2 : decode cX1_all 2 = .ok (.putfield 23, 3) := by decide +kernel
theorem dX1_all_5 : decode cX1_all 5 = .ok (.aload_n 0, 1) := by decide +kernel
theorem dX1_all_6 : decode cX1_all 6 = .ok (.getfield 34, 3) := by decide +kernel
theorem dX1_all_9 : decode cX1_all 9 = .ok (.istore_n 1, 1) := by decide +kernel
theorem dX1_all_10 : decode cX1_all 10 = .ok (.aload_n 0, 1) := by decide +kernel
theorem dX1_all_11 : decode cX1_all 11 = .ok (.iconst 0, 1) := by decide +kernel
theorem dX1_all_12 : decode cX1_all 12 = .ok (.putfield 34, 3) := by decide +kernel
theorem dX1_all_15 : decode cX1_all 15 = .ok (.iload_n 1, 1) := by decide +kernel
theorem dX1_all_16 : decode cX1_all 16 = .ok (.ireturn, 1) := by decide +kernel
theorem dX1_holds_0 : decode cX1_holds 0 = .ok (.iload_n 0, 1) := by decide +kernel
theorem dX1_holds_1 : decode cX1_holds 1 = .ok (.tableswitch 95 0 4 #[35, 47, 59, 71, 83], 35) := by decide +kernel
theorem dX1_holds_36 : decode cX1_holds 36 = .ok (.lload_n 1, 1) := by decide +kernel
theorem dX1_holds_37 : decode cX1_holds 37 = .ok (.lload_n 3, 1) := by decide +kernel
theorem dX1_holds_38 : decode cX1_holds 38 = .ok (.lcmp, 1) := by decide +kernel
theorem dX1_holds_39 : decode cX1_holds 39 = .ok (.ifCond .ge 7, 3) := by decide +kernel
theorem dX1_holds_42 : decode cX1_holds 42 = .ok (.iconst 1, 1) := by decide +kernel
theorem dX1_holds_43 : decode cX1_holds 43 = .ok (.goto 4, 3) := by decide +kernel
theorem dX1_holds_46 : decode cX1_holds 46 = .ok (.iconst 0, 1) := by decide +kernel
theorem dX1_holds_47 : decode cX1_holds 47 = .ok (.ireturn, 1) := by decide +kernel
theorem dX1_holds_48 : decode cX1_holds 48 = .ok (.lload_n 1, 1) := by decide +kernel
theorem dX1_holds_49 : decode cX1_holds 49 = .ok (.lload_n 3, 1) := by decide +kernel
theorem dX1_holds_50 : decode cX1_holds 50 = .ok (.lcmp, 1) := by decide +kernel
theorem dX1_holds_51 : decode cX1_holds 51 = .ok (.ifCond .gt 7, 3) := by decide +kernel
theorem dX1_holds_54 : decode cX1_holds 54 = .ok (.iconst 1, 1) := by decide +kernel
theorem dX1_holds_55 : decode cX1_holds 55 = .ok (.goto 4, 3) := by decide +kernel
theorem dX1_holds_58 : decode cX1_holds 58 = .ok (.iconst 0, 1) := by decide +kernel
theorem dX1_holds_59 : decode cX1_holds 59 = .ok (.ireturn, 1) := by decide +kernel
theorem dX1_holds_60 : decode cX1_holds 60 = .ok (.lload_n 1, 1) := by decide +kernel
theorem dX1_holds_61 : decode cX1_holds 61 = .ok (.lload_n 3, 1) := by decide +kernel
theorem dX1_holds_62 : decode cX1_holds 62 = .ok (.lcmp, 1) := by decide +kernel
theorem dX1_holds_63 : decode cX1_holds 63 = .ok (.ifCond .ne 7, 3) := by decide +kernel
theorem dX1_holds_66 : decode cX1_holds 66 = .ok (.iconst 1, 1) := by decide +kernel
theorem dX1_holds_67 : decode cX1_holds 67 = .ok (.goto 4, 3) := by decide +kernel
theorem dX1_holds_70 : decode cX1_holds 70 = .ok (.iconst 0, 1) := by decide +kernel
theorem dX1_holds_71 : decode cX1_holds 71 = .ok (.ireturn, 1) := by decide +kernel
theorem dX1_holds_72 : decode cX1_holds 72 = .ok (.lload_n 1, 1) := by decide +kernel
theorem dX1_holds_73 : decode cX1_holds 73 = .ok (.lload_n 3, 1) := by decide +kernel
theorem dX1_holds_74 : decode cX1_holds 74 = .ok (.lcmp, 1) := by decide +kernel
theorem dX1_holds_75 : decode cX1_holds 75 = .ok (.ifCond .lt 7, 3) := by decide +kernel
theorem dX1_holds_78 : decode cX1_holds 78 = .ok (.iconst 1, 1) := by decide +kernel
theorem dX1_holds_79 : decode cX1_holds 79 = .ok (.goto 4, 3) := by decide +kernel
theorem dX1_holds_82 : decode cX1_holds 82 = .ok (.iconst 0, 1) := by decide +kernel
theorem dX1_holds_83 : decode cX1_holds 83 = .ok (.ireturn, 1) := by decide +kernel
theorem dX1_holds_84 : decode cX1_holds 84 = .ok (.lload_n 1, 1) := by decide +kernel
theorem dX1_holds_85 : decode cX1_holds 85 = .ok (.lload_n 3, 1) := by decide +kernel
theorem dX1_holds_86 : decode cX1_holds 86 = .ok (.lcmp, 1) := by decide +kernel
theorem dX1_holds_87 : decode cX1_holds 87 = .ok (.ifCond .le 7, 3) := by decide +kernel
theorem dX1_holds_90 : decode cX1_holds 90 = .ok (.iconst 1, 1) := by decide +kernel
theorem dX1_holds_91 : decode cX1_holds 91 = .ok (.goto 4, 3) := by decide +kernel
theorem dX1_holds_94 : decode cX1_holds 94 = .ok (.iconst 0, 1) := by decide +kernel
theorem dX1_holds_95 : decode cX1_holds 95 = .ok (.ireturn, 1) := by decide +kernel
theorem dX1_holds_96 : decode cX1_holds 96 = .ok (.lload_n 1, 1) := by decide +kernel
theorem dX1_holds_97 : decode cX1_holds 97 = .ok (.lload_n 3, 1) := by decide +kernel
theorem dX1_holds_98 : decode cX1_holds 98 = .ok (.lcmp, 1) := by decide +kernel
theorem dX1_holds_99 : decode cX1_holds 99 = .ok (.ifCond .eq 7, 3) := by decide +kernel
theorem dX1_holds_102 : decode cX1_holds 102 = .ok (.iconst 1, 1) := by decide +kernel
theorem dX1_holds_103 : decode cX1_holds 103 = .ok (.goto 4, 3) := by decide +kernel
theorem dX1_holds_106 : decode cX1_holds 106 = .ok (.iconst 0, 1) := by decide +kernel
theorem dX1_holds_107 : decode cX1_holds 107 = .ok (.ireturn, 1) := by decide +kernel
theorem dX1_isChosen_0 : decode cX1_isChosen 0 = .ok (.iconst 1, 1) := by decide +kernel
theorem dX1_isChosen_1 : decode cX1_isChosen 1 = .ok (.istore_n 2, 1) := by decide +kernel
theorem dX1_isChosen_2 : decode cX1_isChosen 2 = .ok (.iconst 0, 1) := by decide +kernel
theorem dX1_isChosen_3 : decode cX1_isChosen 3 = .ok (.istore_n 3, 1) := by decide +kernel
theorem dX1_isChosen_4 : decode cX1_isChosen 4 = .ok (.iload_n 3, 1) := by decide +kernel
theorem dX1_isChosen_5 : decode cX1_isChosen 5 = .ok (.aload_n 0, 1) := by decide +kernel
theorem dX1_isChosen_6 : decode cX1_isChosen 6 = .ok (.getfield 34, 3) := by decide +kernel
theorem dX1_isChosen_9 : decode cX1_isChosen 9 = .ok (.if_icmp .ge 52, 3) := by decide +kernel
theorem dX1_isChosen_12 : decode cX1_isChosen 12 = .ok (.iload_n 2, 1) := by decide +kernel
theorem dX1_isChosen_13 : decode cX1_isChosen 13 = .ok (.ifCond .eq 40, 3) := by decide +kernel
theorem dX1_isChosen_16 : decode cX1_isChosen 16 = .ok (.aload_n 0, 1) := by decide +kernel
theorem dX1_isChosen_17 : decode cX1_isChosen 17 = .ok (.getfield 17, 3) := by decide +kernel
theorem dX1_isChosen_20 : decode cX1_isChosen 20 = .ok (.iload_n 3, 1) := by decide +kernel
theorem dX1_isChosen_21 : decode cX1_isChosen 21 = .ok (.iaload, 1) := by decide +kernel
theorem dX1_isChosen_22 : decode cX1_isChosen 22 = .ok (.aload_n 0, 1) := by decide +kernel
theorem dX1_isChosen_23 : decode cX1_isChosen 23 = .ok (.getfield 7, 3) := by decide +kernel
theorem dX1_isChosen_26 : decode cX1_isChosen 26 = .ok (.iconst 4, 1) := by decide +kernel
theorem dX1_isChosen_27 : decode cX1_isChosen 27 = .ok (.iload_n 1, 1) := by decide +kernel
theorem dX1_isChosen_28 : decode cX1_isChosen 28 = .ok (.imul, 1) := by decide +kernel
theorem dX1_isChosen_29 : decode cX1_isChosen 29 = .ok (.aload_n 0, 1) := by decide +kernel
theorem dX1_isChosen_30 : decode cX1_isChosen 30 = .ok (.getfield 13, 3) := by decide +kernel
theorem dX1_isChosen_33 : decode cX1_isChosen 33 = .ok (.iload_n 3, 1) := by decide +kernel
theorem dX1_isChosen_34 : decode cX1_isChosen 34 = .ok (.iaload, 1) := by decide +kernel
theorem dX1_isChosen_35 : decode cX1_isChosen 35 = .ok (.iadd, 1) := by decide +kernel
theorem dX1_isChosen_36 : decode cX1_isChosen 36 = .ok (.laload, 1) := by decide +kernel
theorem dX1_isChosen_37 : decode cX1_isChosen 37 = .ok (.aload_n 0, 1) := by decide +kernel
theorem dX1_isChosen_38 : decode cX1_isChosen 38 = .ok (.getfield 20, 3) := by decide +kernel
theorem dX1_isChosen_41 : decode cX1_isChosen 41 = .ok (.iload_n 3, 1) := by decide +kernel
theorem dX1_isChosen_42 : decode cX1_isChosen 42 = .ok (.laload, 1) := by decide +kernel
theorem dX1_isChosen_43 : decode cX1_isChosen 43 = .ok (.invokestatic 37, 3) := by decide +kernel
theorem dX1_isChosen_46 : decode cX1_isChosen 46 = .ok (.ifCond .eq 7, 3) := by decide +kernel
theorem dX1_isChosen_49 : decode cX1_isChosen 49 = .ok (.iconst 1, 1) := by decide +kernel
theorem dX1_isChosen_50 : decode cX1_isChosen 50 = .ok (.goto 4, 3) := by decide +kernel
theorem dX1_isChosen_53 : decode cX1_isChosen 53 = .ok (.iconst 0, 1) := by decide +kernel
theorem dX1_isChosen_54 : decode cX1_isChosen 54 = .ok (.istore_n 2, 1) := by decide +kernel
theorem dX1_isChosen_55 : decode cX1_isChosen 55 = .ok (.iinc 3 1, 3) := by decide +kernel
theorem dX1_isChosen_58 : decode cX1_isChosen 58 = .ok (.goto (-54), 3) := by decide +kernel
theorem dX1_isChosen_61 : decode cX1_isChosen 61 = .ok (.iload_n 2, 1) := by decide +kernel
theorem dX1_isChosen_62 : decode cX1_isChosen 62 = .ok (.ireturn, 1) := by decide +kernel
theorem dX1_countChosen_0 : decode cX1_countChosen 0 = .ok (.iconst 0, 1) := by decide +kernel
theorem dX1_countChosen_1 : decode cX1_countChosen 1 = .ok (.istore_n 1, 1) := by decide +kernel
theorem dX1_countChosen_2 : decode cX1_countChosen 2 = .ok (.iconst 0, 1) := by decide +kernel
theorem dX1_countChosen_3 : decode cX1_countChosen 3 = .ok (.istore_n 2, 1) := by decide +kernel
theorem dX1_countChosen_4 : decode cX1_countChosen 4 = .ok (.iload_n 2, 1) := by decide +kernel
theorem dX1_countChosen_5 : decode cX1_countChosen 5 = .ok (.aload_n 0, 1) := by decide +kernel
theorem dX1_countChosen_6 : decode cX1_countChosen 6 = .ok (.getfield 27, 3) := by decide +kernel
theorem dX1_countChosen_9 : decode cX1_countChosen 9 = .ok (.if_icmp .ge 25, 3) := by decide +kernel
theorem dX1_countChosen_12 : decode cX1_countChosen 12 = .ok (.iload_n 1, 1) := by decide +kernel
theorem dX1_countChosen_13 : decode cX1_countChosen 13 = .ok (.aload_n 0, 1) := by decide +kernel
theorem dX1_countChosen_14 : decode cX1_countChosen 14 = .ok (.iload_n 2, 1) := by decide +kernel
theorem dX1_countChosen_15 : decode cX1_countChosen 15 = .ok (.invokevirtual 41, 3) := by decide +kernel
theorem dX1_countChosen_18 : decode cX1_countChosen 18 = .ok (.ifCond .eq 7, 3) := by decide +kernel
theorem dX1_countChosen_21 : decode cX1_countChosen 21 = .ok (.iconst 1, 1) := by decide +kernel
theorem dX1_countChosen_22 : decode cX1_countChosen 22 = .ok (.goto 4, 3) := by decide +kernel
theorem dX1_countChosen_25 : decode cX1_countChosen 25 = .ok (.iconst 0, 1) := by decide +kernel
theorem dX1_countChosen_26 : decode cX1_countChosen 26 = .ok (.iadd, 1) := by decide +kernel
theorem dX1_countChosen_27 : decode cX1_countChosen 27 = .ok (.istore_n 1, 1) := by decide +kernel
theorem dX1_countChosen_28 : decode cX1_countChosen 28 = .ok (.iinc 2 1, 3) := by decide +kernel
theorem dX1_countChosen_31 : decode cX1_countChosen 31 = .ok (.goto (-27), 3) := by decide +kernel
theorem dX1_countChosen_34 : decode cX1_countChosen 34 = .ok (.iload_n 1, 1) := by decide +kernel
theorem dX1_countChosen_35 : decode cX1_countChosen 35 = .ok (.ireturn, 1) := by decide +kernel
theorem dX1_chosen_0 : decode cX1_chosen 0 = .ok (.aload_n 0, 1) := by decide +kernel
theorem dX1_chosen_1 : decode cX1_chosen 1 = .ok (.iconst 0, 1) := by decide +kernel
theorem dX1_chosen_2 : decode cX1_chosen 2 = .ok (.putfield 23, 3) := by decide +kernel
theorem dX1_chosen_5 : decode cX1_chosen 5 = .ok (.aload_n 0, 1) := by decide +kernel
theorem dX1_chosen_6 : decode cX1_chosen 6 = .ok (.invokevirtual 44, 3) := by decide +kernel
theorem dX1_chosen_9 : decode cX1_chosen 9 = .ok (.ireturn, 1) := by decide +kernel
theorem dX1_row_0 : decode cX1_row 0 = .ok (.iconst 0, 1) := by decide +kernel
theorem dX1_row_1 : decode cX1_row 1 = .ok (.istore_n 2, 1) := by decide +kernel
theorem dX1_row_2 : decode cX1_row 2 = .ok (.iconst 0, 1) := by decide +kernel
theorem dX1_row_3 : decode cX1_row 3 = .ok (.istore_n 3, 1) := by decide +kernel
theorem dX1_row_4 : decode cX1_row 4 = .ok (.iload_n 3, 1) := by decide +kernel
theorem dX1_row_5 : decode cX1_row 5 = .ok (.aload_n 0, 1) := by decide +kernel
theorem dX1_row_6 : decode cX1_row 6 = .ok (.getfield 27, 3) := by decide +kernel
theorem dX1_row_9 : decode cX1_row 9 = .ok (.if_icmp .ge 32, 3) := by decide +kernel
theorem dX1_row_12 : decode cX1_row 12 = .ok (.aload_n 0, 1) := by decide +kernel
theorem dX1_row_13 : decode cX1_row 13 = .ok (.iload_n 3, 1) := by decide +kernel
theorem dX1_row_14 : decode cX1_row 14 = .ok (.invokevirtual 41, 3) := by decide +kernel
theorem dX1_row_17 : decode cX1_row 17 = .ok (.ifCond .eq 18, 3) := by decide +kernel
theorem dX1_row_20 : decode cX1_row 20 = .ok (.iload_n 2, 1) := by decide +kernel
theorem dX1_row_21 : decode cX1_row 21 = .ok (.iload_n 1, 1) := by decide +kernel
theorem dX1_row_22 : decode cX1_row 22 = .ok (.if_icmp .ne 10, 3) := by decide +kernel
theorem dX1_row_25 : decode cX1_row 25 = .ok (.aload_n 0, 1) := by decide +kernel
theorem dX1_row_26 : decode cX1_row 26 = .ok (.iconst 0, 1) := by decide +kernel
theorem dX1_row_27 : decode cX1_row 27 = .ok (.putfield 23, 3) := by decide +kernel
theorem dX1_row_30 : decode cX1_row 30 = .ok (.iload_n 3, 1) := by decide +kernel
theorem dX1_row_31 : decode cX1_row 31 = .ok (.ireturn, 1) := by decide +kernel
theorem dX1_row_32 : decode cX1_row 32 = .ok (.iinc 2 1, 3) := by decide +kernel
theorem dX1_row_35 : decode cX1_row 35 = .ok (.iinc 3 1, 3) := by decide +kernel
theorem dX1_row_38 : decode cX1_row 38 = .ok (.goto (-34), 3) := by decide +kernel
theorem dX1_row_41 : decode cX1_row 41 = .ok (.aload_n 0, 1) := by decide +kernel
theorem dX1_row_42 : decode cX1_row 42 = .ok (.iconst 1, 1) := by decide +kernel
theorem dX1_row_43 : decode cX1_row 43 = .ok (.putfield 23, 3) := by decide +kernel
theorem dX1_row_46 : decode cX1_row 46 = .ok (.iconst 0, 1) := by decide +kernel
theorem dX1_row_47 : decode cX1_row 47 = .ok (.ireturn, 1) := by decide +kernel
theorem dX1_least_0 : decode cX1_least 0 = .ok (.aload_n 0, 1) := by decide +kernel
theorem dX1_least_1 : decode cX1_least 1 = .ok (.getfield 7, 3) := by decide +kernel
theorem dX1_least_4 : decode cX1_least 4 = .ok (.bipush 64, 2) := by decide +kernel
theorem dX1_least_6 : decode cX1_least 6 = .ok (.iload_n 1, 1) := by decide +kernel
theorem dX1_least_7 : decode cX1_least 7 = .ok (.imul, 1) := by decide +kernel
theorem dX1_least_8 : decode cX1_least 8 = .ok (.iload_n 2, 1) := by decide +kernel
theorem dX1_least_9 : decode cX1_least 9 = .ok (.iadd, 1) := by decide +kernel
theorem dX1_least_10 : decode cX1_least 10 = .ok (.laload, 1) := by decide +kernel
theorem dX1_least_11 : decode cX1_least 11 = .ok (.lstore_n 3, 1) := by decide +kernel
theorem dX1_least_12 : decode cX1_least 12 = .ok (.bipush 16, 2) := by decide +kernel
theorem dX1_least_14 : decode cX1_least 14 = .ok (.iload_n 1, 1) := by decide +kernel
theorem dX1_least_15 : decode cX1_least 15 = .ok (.imul, 1) := by decide +kernel
theorem dX1_least_16 : decode cX1_least 16 = .ok (.istore 5, 2) := by decide +kernel
theorem dX1_least_18 : decode cX1_least 18 = .ok (.iload 5, 2) := by decide +kernel
theorem dX1_least_20 : decode cX1_least 20 = .ok (.bipush 16, 2) := by decide +kernel
theorem dX1_least_22 : decode cX1_least 22 = .ok (.iload_n 1, 1) := by decide +kernel
theorem dX1_least_23 : decode cX1_least 23 = .ok (.imul, 1) := by decide +kernel
theorem dX1_least_24 : decode cX1_least 24 = .ok (.bipush 16, 2) := by decide +kernel
theorem dX1_least_26 : decode cX1_least 26 = .ok (.iadd, 1) := by decide +kernel
theorem dX1_least_27 : decode cX1_least 27 = .ok (.if_icmp .ge 41, 3) := by decide +kernel
theorem dX1_least_30 : decode cX1_least 30 = .ok (.aload_n 0, 1) := by decide +kernel
theorem dX1_least_31 : decode cX1_least 31 = .ok (.getfield 7, 3) := by decide +kernel
theorem dX1_least_34 : decode cX1_least 34 = .ok (.iconst 4, 1) := by decide +kernel
theorem dX1_least_35 : decode cX1_least 35 = .ok (.iload 5, 2) := by decide +kernel
theorem dX1_least_37 : decode cX1_least 37 = .ok (.imul, 1) := by decide +kernel
theorem dX1_least_38 : decode cX1_least 38 = .ok (.iload_n 2, 1) := by decide +kernel
theorem dX1_least_39 : decode cX1_least 39 = .ok (.iadd, 1) := by decide +kernel
theorem dX1_least_40 : decode cX1_least 40 = .ok (.laload, 1) := by decide +kernel
theorem dX1_least_41 : decode cX1_least 41 = .ok (.lload_n 3, 1) := by decide +kernel
theorem dX1_least_42 : decode cX1_least 42 = .ok (.lcmp, 1) := by decide +kernel
theorem dX1_least_43 : decode cX1_least 43 = .ok (.ifCond .ge 17, 3) := by decide +kernel
theorem dX1_least_46 : decode cX1_least 46 = .ok (.aload_n 0, 1) := by decide +kernel
theorem dX1_least_47 : decode cX1_least 47 = .ok (.getfield 7, 3) := by decide +kernel
theorem dX1_least_50 : decode cX1_least 50 = .ok (.iconst 4, 1) := by decide +kernel
theorem dX1_least_51 : decode cX1_least 51 = .ok (.iload 5, 2) := by decide +kernel
theorem dX1_least_53 : decode cX1_least 53 = .ok (.imul, 1) := by decide +kernel
theorem dX1_least_54 : decode cX1_least 54 = .ok (.iload_n 2, 1) := by decide +kernel
theorem dX1_least_55 : decode cX1_least 55 = .ok (.iadd, 1) := by decide +kernel
theorem dX1_least_56 : decode cX1_least 56 = .ok (.laload, 1) := by decide +kernel
theorem dX1_least_57 : decode cX1_least 57 = .ok (.goto 4, 3) := by decide +kernel
theorem dX1_least_60 : decode cX1_least 60 = .ok (.lload_n 3, 1) := by decide +kernel
theorem dX1_least_61 : decode cX1_least 61 = .ok (.lstore_n 3, 1) := by decide +kernel
theorem dX1_least_62 : decode cX1_least 62 = .ok (.iinc 5 1, 3) := by decide +kernel
theorem dX1_least_65 : decode cX1_least 65 = .ok (.goto (-47), 3) := by decide +kernel
theorem dX1_least_68 : decode cX1_least 68 = .ok (.lload_n 3, 1) := by decide +kernel
theorem dX1_least_69 : decode cX1_least 69 = .ok (.lreturn, 1) := by decide +kernel
theorem dX1_greatest_0 : decode cX1_greatest 0 = .ok (.aload_n 0, 1) := by decide +kernel
theorem dX1_greatest_1 : decode cX1_greatest 1 = .ok (.getfield 7, 3) := by decide +kernel
theorem dX1_greatest_4 : decode cX1_greatest 4 = .ok (.bipush 64, 2) := by decide +kernel
theorem dX1_greatest_6 : decode cX1_greatest 6 = .ok (.iload_n 1, 1) := by decide +kernel
theorem dX1_greatest_7 : decode cX1_greatest 7 = .ok (.imul, 1) := by decide +kernel
theorem dX1_greatest_8 : decode cX1_greatest 8 = .ok (.iload_n 2, 1) := by decide +kernel
theorem dX1_greatest_9 : decode cX1_greatest 9 = .ok (.iadd, 1) := by decide +kernel
theorem dX1_greatest_10 : decode cX1_greatest 10 = .ok (.laload, 1) := by decide +kernel
theorem dX1_greatest_11 : decode cX1_greatest 11 = .ok (.lstore_n 3, 1) := by decide +kernel
theorem dX1_greatest_12 : decode cX1_greatest 12 = .ok (.bipush 16, 2) := by decide +kernel
theorem dX1_greatest_14 : decode cX1_greatest 14 = .ok (.iload_n 1, 1) := by decide +kernel
theorem dX1_greatest_15 : decode cX1_greatest 15 = .ok (.imul, 1) := by decide +kernel
theorem dX1_greatest_16 : decode cX1_greatest 16 = .ok (.istore 5, 2) := by decide +kernel
theorem dX1_greatest_18 : decode cX1_greatest 18 = .ok (.iload 5, 2) := by decide +kernel
theorem dX1_greatest_20 : decode cX1_greatest 20 = .ok (.bipush 16, 2) := by decide +kernel
theorem dX1_greatest_22 : decode cX1_greatest 22 = .ok (.iload_n 1, 1) := by decide +kernel
theorem dX1_greatest_23 : decode cX1_greatest 23 = .ok (.imul, 1) := by decide +kernel
theorem dX1_greatest_24 : decode cX1_greatest 24 = .ok (.bipush 16, 2) := by decide +kernel
theorem dX1_greatest_26 : decode cX1_greatest 26 = .ok (.iadd, 1) := by decide +kernel
theorem dX1_greatest_27 : decode cX1_greatest 27 = .ok (.if_icmp .ge 41, 3) := by decide +kernel
theorem dX1_greatest_30 : decode cX1_greatest 30 = .ok (.aload_n 0, 1) := by decide +kernel
theorem dX1_greatest_31 : decode cX1_greatest 31 = .ok (.getfield 7, 3) := by decide +kernel
theorem dX1_greatest_34 : decode cX1_greatest 34 = .ok (.iconst 4, 1) := by decide +kernel
theorem dX1_greatest_35 : decode cX1_greatest 35 = .ok (.iload 5, 2) := by decide +kernel
theorem dX1_greatest_37 : decode cX1_greatest 37 = .ok (.imul, 1) := by decide +kernel
theorem dX1_greatest_38 : decode cX1_greatest 38 = .ok (.iload_n 2, 1) := by decide +kernel
theorem dX1_greatest_39 : decode cX1_greatest 39 = .ok (.iadd, 1) := by decide +kernel
theorem dX1_greatest_40 : decode cX1_greatest 40 = .ok (.laload, 1) := by decide +kernel
theorem dX1_greatest_41 : decode cX1_greatest 41 = .ok (.lload_n 3, 1) := by decide +kernel
theorem dX1_greatest_42 : decode cX1_greatest 42 = .ok (.lcmp, 1) := by decide +kernel
theorem dX1_greatest_43 : decode cX1_greatest 43 = .ok (.ifCond .le 17, 3) := by decide +kernel
theorem dX1_greatest_46 : decode cX1_greatest 46 = .ok (.aload_n 0, 1) := by decide +kernel
theorem dX1_greatest_47 : decode cX1_greatest 47 = .ok (.getfield 7, 3) := by decide +kernel
theorem dX1_greatest_50 : decode cX1_greatest 50 = .ok (.iconst 4, 1) := by decide +kernel
theorem dX1_greatest_51 : decode cX1_greatest 51 = .ok (.iload 5, 2) := by decide +kernel
theorem dX1_greatest_53 : decode cX1_greatest 53 = .ok (.imul, 1) := by decide +kernel
theorem dX1_greatest_54 : decode cX1_greatest 54 = .ok (.iload_n 2, 1) := by decide +kernel
theorem dX1_greatest_55 : decode cX1_greatest 55 = .ok (.iadd, 1) := by decide +kernel
theorem dX1_greatest_56 : decode cX1_greatest 56 = .ok (.laload, 1) := by decide +kernel
theorem dX1_greatest_57 : decode cX1_greatest 57 = .ok (.goto 4, 3) := by decide +kernel
theorem dX1_greatest_60 : decode cX1_greatest 60 = .ok (.lload_n 3, 1) := by decide +kernel
theorem dX1_greatest_61 : decode cX1_greatest 61 = .ok (.lstore_n 3, 1) := by decide +kernel
theorem dX1_greatest_62 : decode cX1_greatest 62 = .ok (.iinc 5 1, 3) := by decide +kernel
theorem dX1_greatest_65 : decode cX1_greatest 65 = .ok (.goto (-47), 3) := by decide +kernel
theorem dX1_greatest_68 : decode cX1_greatest 68 = .ok (.lload_n 3, 1) := by decide +kernel
theorem dX1_greatest_69 : decode cX1_greatest 69 = .ok (.lreturn, 1) := by decide +kernel
theorem dX1_could_0 : decode cX1_could 0 = .ok (.iload_n 0, 1) := by decide +kernel
theorem dX1_could_1 : decode cX1_could 1 = .ok (.iconst 2, 1) := by decide +kernel
theorem dX1_could_2 : decode cX1_could 2 = .ok (.if_icmp .ne 23, 3) := by decide +kernel
theorem dX1_could_5 : decode cX1_could 5 = .ok (.lload_n 1, 1) := by decide +kernel
theorem dX1_could_6 : decode cX1_could 6 = .ok (.lload 5, 2) := by decide +kernel
theorem dX1_could_8 : decode cX1_could 8 = .ok (.lcmp, 1) := by decide +kernel
theorem dX1_could_9 : decode cX1_could 9 = .ok (.ifCond .gt 14, 3) := by decide +kernel
theorem dX1_could_12 : decode cX1_could 12 = .ok (.lload 5, 2) := by decide +kernel
theorem dX1_could_14 : decode cX1_could 14 = .ok (.lload_n 3, 1) := by decide +kernel
theorem dX1_could_15 : decode cX1_could 15 = .ok (.lcmp, 1) := by decide +kernel
theorem dX1_could_16 : decode cX1_could 16 = .ok (.ifCond .gt 7, 3) := by decide +kernel
theorem dX1_could_19 : decode cX1_could 19 = .ok (.iconst 1, 1) := by decide +kernel
theorem dX1_could_20 : decode cX1_could 20 = .ok (.goto 4, 3) := by decide +kernel
theorem dX1_could_23 : decode cX1_could 23 = .ok (.iconst 0, 1) := by decide +kernel
theorem dX1_could_24 : decode cX1_could 24 = .ok (.ireturn, 1) := by decide +kernel
theorem dX1_could_25 : decode cX1_could 25 = .ok (.iload_n 0, 1) := by decide +kernel
theorem dX1_could_26 : decode cX1_could 26 = .ok (.lload_n 1, 1) := by decide +kernel
theorem dX1_could_27 : decode cX1_could 27 = .ok (.lload 5, 2) := by decide +kernel
theorem dX1_could_29 : decode cX1_could 29 = .ok (.invokestatic 37, 3) := by decide +kernel
theorem dX1_could_32 : decode cX1_could 32 = .ok (.ifCond .ne 13, 3) := by decide +kernel
theorem dX1_could_35 : decode cX1_could 35 = .ok (.iload_n 0, 1) := by decide +kernel
theorem dX1_could_36 : decode cX1_could 36 = .ok (.lload_n 3, 1) := by decide +kernel
theorem dX1_could_37 : decode cX1_could 37 = .ok (.lload 5, 2) := by decide +kernel
theorem dX1_could_39 : decode cX1_could 39 = .ok (.invokestatic 37, 3) := by decide +kernel
theorem dX1_could_42 : decode cX1_could 42 = .ok (.ifCond .eq 7, 3) := by decide +kernel
theorem dX1_could_45 : decode cX1_could 45 = .ok (.iconst 1, 1) := by decide +kernel
theorem dX1_could_46 : decode cX1_could 46 = .ok (.goto 4, 3) := by decide +kernel
theorem dX1_could_49 : decode cX1_could 49 = .ok (.iconst 0, 1) := by decide +kernel
theorem dX1_could_50 : decode cX1_could 50 = .ok (.ireturn, 1) := by decide +kernel
theorem dX1_blocks_0 : decode cX1_blocks 0 = .ok (.aload_n 0, 1) := by decide +kernel
theorem dX1_blocks_1 : decode cX1_blocks 1 = .ok (.iconst 0, 1) := by decide +kernel
theorem dX1_blocks_2 : decode cX1_blocks 2 = .ok (.putfield 23, 3) := by decide +kernel
theorem dX1_blocks_5 : decode cX1_blocks 5 = .ok (.iconst 0, 1) := by decide +kernel
theorem dX1_blocks_6 : decode cX1_blocks 6 = .ok (.istore_n 1, 1) := by decide +kernel
theorem dX1_blocks_7 : decode cX1_blocks 7 = .ok (.iconst 0, 1) := by decide +kernel
theorem dX1_blocks_8 : decode cX1_blocks 8 = .ok (.istore_n 2, 1) := by decide +kernel
theorem dX1_blocks_9 : decode cX1_blocks 9 = .ok (.bipush 16, 2) := by decide +kernel
theorem dX1_blocks_11 : decode cX1_blocks 11 = .ok (.iload_n 2, 1) := by decide +kernel
theorem dX1_blocks_12 : decode cX1_blocks 12 = .ok (.imul, 1) := by decide +kernel
theorem dX1_blocks_13 : decode cX1_blocks 13 = .ok (.aload_n 0, 1) := by decide +kernel
theorem dX1_blocks_14 : decode cX1_blocks 14 = .ok (.getfield 27, 3) := by decide +kernel
theorem dX1_blocks_17 : decode cX1_blocks 17 = .ok (.if_icmp .ge 117, 3) := by decide +kernel
theorem dX1_blocks_20 : decode cX1_blocks 20 = .ok (.iconst 1, 1) := by decide +kernel
theorem dX1_blocks_21 : decode cX1_blocks 21 = .ok (.istore_n 3, 1) := by decide +kernel
theorem dX1_blocks_22 : decode cX1_blocks 22 = .ok (.iconst 0, 1) := by decide +kernel
theorem dX1_blocks_23 : decode cX1_blocks 23 = .ok (.istore 4, 2) := by decide +kernel
theorem dX1_blocks_25 : decode cX1_blocks 25 = .ok (.iload 4, 2) := by decide +kernel
theorem dX1_blocks_27 : decode cX1_blocks 27 = .ok (.aload_n 0, 1) := by decide +kernel
theorem dX1_blocks_28 : decode cX1_blocks 28 = .ok (.getfield 34, 3) := by decide +kernel
theorem dX1_blocks_31 : decode cX1_blocks 31 = .ok (.if_icmp .ge 85, 3) := by decide +kernel
theorem dX1_blocks_34 : decode cX1_blocks 34 = .ok (.bipush 16, 2) := by decide +kernel
theorem dX1_blocks_36 : decode cX1_blocks 36 = .ok (.iload_n 2, 1) := by decide +kernel
theorem dX1_blocks_37 : decode cX1_blocks 37 = .ok (.imul, 1) := by decide +kernel
theorem dX1_blocks_38 : decode cX1_blocks 38 = .ok (.bipush 16, 2) := by decide +kernel
theorem dX1_blocks_40 : decode cX1_blocks 40 = .ok (.iadd, 1) := by decide +kernel
theorem dX1_blocks_41 : decode cX1_blocks 41 = .ok (.aload_n 0, 1) := by decide +kernel
theorem dX1_blocks_42 : decode cX1_blocks 42 = .ok (.getfield 27, 3) := by decide +kernel
theorem dX1_blocks_45 : decode cX1_blocks 45 = .ok (.if_icmp .gt 71, 3) := by decide +kernel
theorem dX1_blocks_48 : decode cX1_blocks 48 = .ok (.aload_n 0, 1) := by decide +kernel
theorem dX1_blocks_49 : decode cX1_blocks 49 = .ok (.iload_n 2, 1) := by decide +kernel
theorem dX1_blocks_50 : decode cX1_blocks 50 = .ok (.aload_n 0, 1) := by decide +kernel
theorem dX1_blocks_51 : decode cX1_blocks 51 = .ok (.getfield 13, 3) := by decide +kernel
theorem dX1_blocks_54 : decode cX1_blocks 54 = .ok (.iload 4, 2) := by decide +kernel
theorem dX1_blocks_56 : decode cX1_blocks 56 = .ok (.iaload, 1) := by decide +kernel
theorem dX1_blocks_57 : decode cX1_blocks 57 = .ok (.invokevirtual 48, 3) := by decide +kernel
theorem dX1_blocks_60 : decode cX1_blocks 60 = .ok (.lstore 5, 2) := by decide +kernel
theorem dX1_blocks_62 : decode cX1_blocks 62 = .ok (.aload_n 0, 1) := by decide +kernel
theorem dX1_blocks_63 : decode cX1_blocks 63 = .ok (.iload_n 2, 1) := by decide +kernel
theorem dX1_blocks_64 : decode cX1_blocks 64 = .ok (.aload_n 0, 1) := by decide +kernel
theorem dX1_blocks_65 : decode cX1_blocks 65 = .ok (.getfield 13, 3) := by decide +kernel
theorem dX1_blocks_68 : decode cX1_blocks 68 = .ok (.iload 4, 2) := by decide +kernel
theorem dX1_blocks_70 : decode cX1_blocks 70 = .ok (.iaload, 1) := by decide +kernel
theorem dX1_blocks_71 : decode cX1_blocks 71 = .ok (.invokevirtual 52, 3) := by decide +kernel
theorem dX1_blocks_74 : decode cX1_blocks 74 = .ok (.lstore 7, 2) := by decide +kernel
theorem dX1_blocks_76 : decode cX1_blocks 76 = .ok (.iload_n 3, 1) := by decide +kernel
theorem dX1_blocks_77 : decode cX1_blocks 77 = .ok (.ifCond .eq 31, 3) := by decide +kernel
theorem dX1_blocks_80 : decode cX1_blocks 80 = .ok (.aload_n 0, 1) := by decide +kernel
theorem dX1_blocks_81 : decode cX1_blocks 81 = .ok (.getfield 17, 3) := by decide +kernel
theorem dX1_blocks_84 : decode cX1_blocks 84 = .ok (.iload 4, 2) := by decide +kernel
theorem dX1_blocks_86 : decode cX1_blocks 86 = .ok (.iaload, 1) := by decide +kernel
theorem dX1_blocks_87 : decode cX1_blocks 87 = .ok (.lload 5, 2) := by decide +kernel
theorem dX1_blocks_89 : decode cX1_blocks 89 = .ok (.lload 7, 2) := by decide +kernel
theorem dX1_blocks_91 : decode cX1_blocks 91 = .ok (.aload_n 0, 1) := by decide +kernel
theorem dX1_blocks_92 : decode cX1_blocks 92 = .ok (.getfield 20, 3) := by decide +kernel
theorem dX1_blocks_95 : decode cX1_blocks 95 = .ok (.iload 4, 2) := by decide +kernel
theorem dX1_blocks_97 : decode cX1_blocks 97 = .ok (.laload, 1) := by decide +kernel
theorem dX1_blocks_98 : decode cX1_blocks 98 = .ok (.invokestatic 55, 3) := by decide +kernel
theorem dX1_blocks_101 : decode cX1_blocks 101 = .ok (.ifCond .eq 7, 3) := by decide +kernel
theorem dX1_blocks_104 : decode cX1_blocks 104 = .ok (.iconst 1, 1) := by decide +kernel
theorem dX1_blocks_105 : decode cX1_blocks 105 = .ok (.goto 4, 3) := by decide +kernel
theorem dX1_blocks_108 : decode cX1_blocks 108 = .ok (.iconst 0, 1) := by decide +kernel
theorem dX1_blocks_109 : decode cX1_blocks 109 = .ok (.istore_n 3, 1) := by decide +kernel
theorem dX1_blocks_110 : decode cX1_blocks 110 = .ok (.iinc 4 1, 3) := by decide +kernel
theorem dX1_blocks_113 : decode cX1_blocks 113 = .ok (.goto (-88), 3) := by decide +kernel
theorem dX1_blocks_116 : decode cX1_blocks 116 = .ok (.iload_n 1, 1) := by decide +kernel
theorem dX1_blocks_117 : decode cX1_blocks 117 = .ok (.iload_n 3, 1) := by decide +kernel
theorem dX1_blocks_118 : decode cX1_blocks 118 = .ok (.ifCond .eq 7, 3) := by decide +kernel
theorem dX1_blocks_121 : decode cX1_blocks 121 = .ok (.iconst 1, 1) := by decide +kernel
theorem dX1_blocks_122 : decode cX1_blocks 122 = .ok (.goto 4, 3) := by decide +kernel
theorem dX1_blocks_125 : decode cX1_blocks 125 = .ok (.iconst 0, 1) := by decide +kernel
theorem dX1_blocks_126 : decode cX1_blocks 126 = .ok (.iadd, 1) := by decide +kernel
theorem dX1_blocks_127 : decode cX1_blocks 127 = .ok (.istore_n 1, 1) := by decide +kernel
theorem dX1_blocks_128 : decode cX1_blocks 128 = .ok (.iinc 2 1, 3) := by decide +kernel
theorem dX1_blocks_131 : decode cX1_blocks 131 = .ok (.goto (-122), 3) := by decide +kernel
theorem dX1_blocks_134 : decode cX1_blocks 134 = .ok (.iload_n 1, 1) := by decide +kernel
theorem dX1_blocks_135 : decode cX1_blocks 135 = .ok (.ireturn, 1) := by decide +kernel
theorem dX1_width_0 : decode cX1_width 0 = .ok (.iconst 0, 1) := by decide +kernel
theorem dX1_width_1 : decode cX1_width 1 = .ok (.istore_n 2, 1) := by decide +kernel
theorem dX1_width_2 : decode cX1_width 2 = .ok (.lload_n 0, 1) := by decide +kernel
theorem dX1_width_3 : decode cX1_width 3 = .ok (.lstore_n 3, 1) := by decide +kernel
theorem dX1_width_4 : decode cX1_width 4 = .ok (.lload_n 3, 1) := by decide +kernel
theorem dX1_width_5 : decode cX1_width 5 = .ok (.lconst 0, 1) := by decide +kernel
theorem dX1_width_6 : decode cX1_width 6 = .ok (.lcmp, 1) := by decide +kernel
theorem dX1_width_7 : decode cX1_width 7 = .ok (.ifCond .eq 13, 3) := by decide +kernel
theorem dX1_width_10 : decode cX1_width 10 = .ok (.iinc 2 1, 3) := by decide +kernel
theorem dX1_width_13 : decode cX1_width 13 = .ok (.lload_n 3, 1) := by decide +kernel
theorem dX1_width_14 : decode cX1_width 14 = .ok (.iconst 1, 1) := by decide +kernel
theorem dX1_width_15 : decode cX1_width 15 = .ok (.lushr, 1) := by decide +kernel
theorem dX1_width_16 : decode cX1_width 16 = .ok (.lstore_n 3, 1) := by decide +kernel
theorem dX1_width_17 : decode cX1_width 17 = .ok (.goto (-13), 3) := by decide +kernel
theorem dX1_width_20 : decode cX1_width 20 = .ok (.iload_n 2, 1) := by decide +kernel
theorem dX1_width_21 : decode cX1_width 21 = .ok (.ireturn, 1) := by decide +kernel
theorem dX1_need_0 : decode cX1_need 0 = .ok (.iload_n 2, 1) := by decide +kernel
theorem dX1_need_1 : decode cX1_need 1 = .ok (.iconst 3, 1) := by decide +kernel
theorem dX1_need_2 : decode cX1_need 2 = .ok (.if_icmp .ne 8, 3) := by decide +kernel
theorem dX1_need_5 : decode cX1_need 5 = .ok (.bipush 64, 2) := by decide +kernel
theorem dX1_need_7 : decode cX1_need 7 = .ok (.goto 5, 3) := by decide +kernel
theorem dX1_need_10 : decode cX1_need 10 = .ok (.bipush 32, 2) := by decide +kernel
theorem dX1_need_12 : decode cX1_need 12 = .ok (.istore 4, 2) := by decide +kernel
theorem dX1_need_14 : decode cX1_need 14 = .ok (.iload_n 3, 1) := by decide +kernel
theorem dX1_need_15 : decode cX1_need 15 = .ok (.ifCond .ne 9, 3) := by decide +kernel
theorem dX1_need_18 : decode cX1_need 18 = .ok (.bipush 16, 2) := by decide +kernel
theorem dX1_need_20 : decode cX1_need 20 = .ok (.iload 4, 2) := by decide +kernel
theorem dX1_need_22 : decode cX1_need 22 = .ok (.imul, 1) := by decide +kernel
theorem dX1_need_23 : decode cX1_need 23 = .ok (.ireturn, 1) := by decide +kernel
theorem dX1_need_24 : decode cX1_need 24 = .ok (.iload_n 3, 1) := by decide +kernel
theorem dX1_need_25 : decode cX1_need 25 = .ok (.iconst 3, 1) := by decide +kernel
theorem dX1_need_26 : decode cX1_need 26 = .ok (.if_icmp .ne 33, 3) := by decide +kernel
theorem dX1_need_29 : decode cX1_need 29 = .ok (.aload_n 0, 1) := by decide +kernel
theorem dX1_need_30 : decode cX1_need 30 = .ok (.iload_n 1, 1) := by decide +kernel
theorem dX1_need_31 : decode cX1_need 31 = .ok (.iload_n 2, 1) := by decide +kernel
theorem dX1_need_32 : decode cX1_need 32 = .ok (.invokevirtual 52, 3) := by decide +kernel
theorem dX1_need_35 : decode cX1_need 35 = .ok (.aload_n 0, 1) := by decide +kernel
theorem dX1_need_36 : decode cX1_need 36 = .ok (.iload_n 1, 1) := by decide +kernel
theorem dX1_need_37 : decode cX1_need 37 = .ok (.iload_n 2, 1) := by decide +kernel
theorem dX1_need_38 : decode cX1_need 38 = .ok (.invokevirtual 48, 3) := by decide +kernel
theorem dX1_need_41 : decode cX1_need 41 = .ok (.lsub, 1) := by decide +kernel
theorem dX1_need_42 : decode cX1_need 42 = .ok (.lstore 5, 2) := by decide +kernel
theorem dX1_need_44 : decode cX1_need 44 = .ok (.iload 4, 2) := by decide +kernel
theorem dX1_need_46 : decode cX1_need 46 = .ok (.bipush 7, 2) := by decide +kernel
theorem dX1_need_48 : decode cX1_need 48 = .ok (.iadd, 1) := by decide +kernel
theorem dX1_need_49 : decode cX1_need 49 = .ok (.bipush 16, 2) := by decide +kernel
theorem dX1_need_51 : decode cX1_need 51 = .ok (.lload 5, 2) := by decide +kernel
theorem dX1_need_53 : decode cX1_need 53 = .ok (.invokestatic 59, 3) := by decide +kernel
theorem dX1_need_56 : decode cX1_need 56 = .ok (.imul, 1) := by decide +kernel
theorem dX1_need_57 : decode cX1_need 57 = .ok (.iadd, 1) := by decide +kernel
theorem dX1_need_58 : decode cX1_need 58 = .ok (.ireturn, 1) := by decide +kernel
theorem dX1_need_59 : decode cX1_need 59 = .ok (.iconst 0, 1) := by decide +kernel
theorem dX1_need_60 : decode cX1_need 60 = .ok (.istore 5, 2) := by decide +kernel
theorem dX1_need_62 : decode cX1_need 62 = .ok (.iconst 0, 1) := by decide +kernel
theorem dX1_need_63 : decode cX1_need 63 = .ok (.istore 6, 2) := by decide +kernel
theorem dX1_need_65 : decode cX1_need 65 = .ok (.bipush 16, 2) := by decide +kernel
theorem dX1_need_67 : decode cX1_need 67 = .ok (.iload_n 1, 1) := by decide +kernel
theorem dX1_need_68 : decode cX1_need 68 = .ok (.imul, 1) := by decide +kernel
theorem dX1_need_69 : decode cX1_need 69 = .ok (.istore 7, 2) := by decide +kernel
theorem dX1_need_71 : decode cX1_need 71 = .ok (.iload 7, 2) := by decide +kernel
theorem dX1_need_73 : decode cX1_need 73 = .ok (.bipush 16, 2) := by decide +kernel
theorem dX1_need_75 : decode cX1_need 75 = .ok (.iload_n 1, 1) := by decide +kernel
theorem dX1_need_76 : decode cX1_need 76 = .ok (.imul, 1) := by decide +kernel
theorem dX1_need_77 : decode cX1_need 77 = .ok (.bipush 16, 2) := by decide +kernel
theorem dX1_need_79 : decode cX1_need 79 = .ok (.iadd, 1) := by decide +kernel
theorem dX1_need_80 : decode cX1_need 80 = .ok (.if_icmp .ge 126, 3) := by decide +kernel
theorem dX1_need_83 : decode cX1_need 83 = .ok (.aload_n 0, 1) := by decide +kernel
theorem dX1_need_84 : decode cX1_need 84 = .ok (.getfield 7, 3) := by decide +kernel
theorem dX1_need_87 : decode cX1_need 87 = .ok (.iconst 4, 1) := by decide +kernel
theorem dX1_need_88 : decode cX1_need 88 = .ok (.iload 7, 2) := by decide +kernel
theorem dX1_need_90 : decode cX1_need 90 = .ok (.imul, 1) := by decide +kernel
theorem dX1_need_91 : decode cX1_need 91 = .ok (.iload_n 2, 1) := by decide +kernel
theorem dX1_need_92 : decode cX1_need 92 = .ok (.iadd, 1) := by decide +kernel
theorem dX1_need_93 : decode cX1_need 93 = .ok (.laload, 1) := by decide +kernel
theorem dX1_need_94 : decode cX1_need 94 = .ok (.lstore 8, 2) := by decide +kernel
theorem dX1_need_96 : decode cX1_need 96 = .ok (.iconst 1, 1) := by decide +kernel
theorem dX1_need_97 : decode cX1_need 97 = .ok (.istore 10, 2) := by decide +kernel
theorem dX1_need_99 : decode cX1_need 99 = .ok (.bipush 16, 2) := by decide +kernel
theorem dX1_need_101 : decode cX1_need 101 = .ok (.iload_n 1, 1) := by decide +kernel
theorem dX1_need_102 : decode cX1_need 102 = .ok (.imul, 1) := by decide +kernel
theorem dX1_need_103 : decode cX1_need 103 = .ok (.istore 11, 2) := by decide +kernel
theorem dX1_need_105 : decode cX1_need 105 = .ok (.iload 11, 2) := by decide +kernel
theorem dX1_need_107 : decode cX1_need 107 = .ok (.iload 7, 2) := by decide +kernel
theorem dX1_need_109 : decode cX1_need 109 = .ok (.if_icmp .ge 38, 3) := by decide +kernel
theorem dX1_need_112 : decode cX1_need 112 = .ok (.iload 10, 2) := by decide +kernel
theorem dX1_need_114 : decode cX1_need 114 = .ok (.ifCond .eq 24, 3) := by decide +kernel
theorem dX1_need_117 : decode cX1_need 117 = .ok (.aload_n 0, 1) := by decide +kernel
theorem dX1_need_118 : decode cX1_need 118 = .ok (.getfield 7, 3) := by decide +kernel
theorem dX1_need_121 : decode cX1_need 121 = .ok (.iconst 4, 1) := by decide +kernel
theorem dX1_need_122 : decode cX1_need 122 = .ok (.iload 11, 2) := by decide +kernel
theorem dX1_need_124 : decode cX1_need 124 = .ok (.imul, 1) := by decide +kernel
theorem dX1_need_125 : decode cX1_need 125 = .ok (.iload_n 2, 1) := by decide +kernel
theorem dX1_need_126 : decode cX1_need 126 = .ok (.iadd, 1) := by decide +kernel
theorem dX1_need_127 : decode cX1_need 127 = .ok (.laload, 1) := by decide +kernel
theorem dX1_need_128 : decode cX1_need 128 = .ok (.lload 8, 2) := by decide +kernel
theorem dX1_need_130 : decode cX1_need 130 = .ok (.lcmp, 1) := by decide +kernel
theorem dX1_need_131 : decode cX1_need 131 = .ok (.ifCond .eq 7, 3) := by decide +kernel
theorem dX1_need_134 : decode cX1_need 134 = .ok (.iconst 1, 1) := by decide +kernel
theorem dX1_need_135 : decode cX1_need 135 = .ok (.goto 4, 3) := by decide +kernel
theorem dX1_need_138 : decode cX1_need 138 = .ok (.iconst 0, 1) := by decide +kernel
theorem dX1_need_139 : decode cX1_need 139 = .ok (.istore 10, 2) := by decide +kernel
theorem dX1_need_141 : decode cX1_need 141 = .ok (.iinc 11 1, 3) := by decide +kernel
theorem dX1_need_144 : decode cX1_need 144 = .ok (.goto (-39), 3) := by decide +kernel
theorem dX1_need_147 : decode cX1_need 147 = .ok (.iload 6, 2) := by decide +kernel
theorem dX1_need_149 : decode cX1_need 149 = .ok (.iload 10, 2) := by decide +kernel
theorem dX1_need_151 : decode cX1_need 151 = .ok (.ifCond .eq 7, 3) := by decide +kernel
theorem dX1_need_154 : decode cX1_need 154 = .ok (.iconst 1, 1) := by decide +kernel
theorem dX1_need_155 : decode cX1_need 155 = .ok (.goto 4, 3) := by decide +kernel
theorem dX1_need_158 : decode cX1_need 158 = .ok (.iconst 0, 1) := by decide +kernel
theorem dX1_need_159 : decode cX1_need 159 = .ok (.iadd, 1) := by decide +kernel
theorem dX1_need_160 : decode cX1_need 160 = .ok (.istore 6, 2) := by decide +kernel
theorem dX1_need_162 : decode cX1_need 162 = .ok (.iload 5, 2) := by decide +kernel
theorem dX1_need_164 : decode cX1_need 164 = .ok (.iload 7, 2) := by decide +kernel
theorem dX1_need_166 : decode cX1_need 166 = .ok (.bipush 16, 2) := by decide +kernel
theorem dX1_need_168 : decode cX1_need 168 = .ok (.iload_n 1, 1) := by decide +kernel
theorem dX1_need_169 : decode cX1_need 169 = .ok (.imul, 1) := by decide +kernel
theorem dX1_need_170 : decode cX1_need 170 = .ok (.if_icmp .eq 22, 3) := by decide +kernel
theorem dX1_need_173 : decode cX1_need 173 = .ok (.aload_n 0, 1) := by decide +kernel
theorem dX1_need_174 : decode cX1_need 174 = .ok (.getfield 7, 3) := by decide +kernel
theorem dX1_need_177 : decode cX1_need 177 = .ok (.iconst 4, 1) := by decide +kernel
theorem dX1_need_178 : decode cX1_need 178 = .ok (.iload 7, 2) := by decide +kernel
theorem dX1_need_180 : decode cX1_need 180 = .ok (.imul, 1) := by decide +kernel
theorem dX1_need_181 : decode cX1_need 181 = .ok (.iconst 4, 1) := by decide +kernel
theorem dX1_need_182 : decode cX1_need 182 = .ok (.isub, 1) := by decide +kernel
theorem dX1_need_183 : decode cX1_need 183 = .ok (.iload_n 2, 1) := by decide +kernel
theorem dX1_need_184 : decode cX1_need 184 = .ok (.iadd, 1) := by decide +kernel
theorem dX1_need_185 : decode cX1_need 185 = .ok (.laload, 1) := by decide +kernel
theorem dX1_need_186 : decode cX1_need 186 = .ok (.lload 8, 2) := by decide +kernel
theorem dX1_need_188 : decode cX1_need 188 = .ok (.lcmp, 1) := by decide +kernel
theorem dX1_need_189 : decode cX1_need 189 = .ok (.ifCond .eq 7, 3) := by decide +kernel
theorem dX1_need_192 : decode cX1_need 192 = .ok (.iconst 1, 1) := by decide +kernel
theorem dX1_need_193 : decode cX1_need 193 = .ok (.goto 4, 3) := by decide +kernel
theorem dX1_need_196 : decode cX1_need 196 = .ok (.iconst 0, 1) := by decide +kernel
theorem dX1_need_197 : decode cX1_need 197 = .ok (.iadd, 1) := by decide +kernel
theorem dX1_need_198 : decode cX1_need 198 = .ok (.istore 5, 2) := by decide +kernel
theorem dX1_need_200 : decode cX1_need 200 = .ok (.iinc 7 1, 3) := by decide +kernel
theorem dX1_need_203 : decode cX1_need 203 = .ok (.goto (-132), 3) := by decide +kernel
theorem dX1_need_206 : decode cX1_need 206 = .ok (.iload_n 3, 1) := by decide +kernel
theorem dX1_need_207 : decode cX1_need 207 = .ok (.iconst 1, 1) := by decide +kernel
theorem dX1_need_208 : decode cX1_need 208 = .ok (.if_icmp .ne 13, 3) := by decide +kernel
theorem dX1_need_211 : decode cX1_need 211 = .ok (.iload 4, 2) := by decide +kernel
theorem dX1_need_213 : decode cX1_need 213 = .ok (.iconst 5, 1) := by decide +kernel
theorem dX1_need_214 : decode cX1_need 214 = .ok (.iadd, 1) := by decide +kernel
theorem dX1_need_215 : decode cX1_need 215 = .ok (.iload 5, 2) := by decide +kernel
theorem dX1_need_217 : decode cX1_need 217 = .ok (.imul, 1) := by decide +kernel
theorem dX1_need_218 : decode cX1_need 218 = .ok (.goto 20, 3) := by decide +kernel
theorem dX1_need_221 : decode cX1_need 221 = .ok (.iload 4, 2) := by decide +kernel
theorem dX1_need_223 : decode cX1_need 223 = .ok (.iload 6, 2) := by decide +kernel
theorem dX1_need_225 : decode cX1_need 225 = .ok (.imul, 1) := by decide +kernel
theorem dX1_need_226 : decode cX1_need 226 = .ok (.bipush 16, 2) := by decide +kernel
theorem dX1_need_228 : decode cX1_need 228 = .ok (.iload 6, 2) := by decide +kernel
theorem dX1_need_230 : decode cX1_need 230 = .ok (.i2l, 1) := by decide +kernel
theorem dX1_need_231 : decode cX1_need 231 = .ok (.lconst 1, 1) := by decide +kernel
theorem dX1_need_232 : decode cX1_need 232 = .ok (.lsub, 1) := by decide +kernel
theorem dX1_need_233 : decode cX1_need 233 = .ok (.invokestatic 59, 3) := by decide +kernel
theorem dX1_need_236 : decode cX1_need 236 = .ok (.imul, 1) := by decide +kernel
theorem dX1_need_237 : decode cX1_need 237 = .ok (.iadd, 1) := by decide +kernel
theorem dX1_need_238 : decode cX1_need 238 = .ok (.ireturn, 1) := by decide +kernel
theorem dX1_best_0 : decode cX1_best 0 = .ok (.iconst 0, 1) := by decide +kernel
theorem dX1_best_1 : decode cX1_best 1 = .ok (.istore_n 3, 1) := by decide +kernel
theorem dX1_best_2 : decode cX1_best 2 = .ok (.iconst 1, 1) := by decide +kernel
theorem dX1_best_3 : decode cX1_best 3 = .ok (.istore 4, 2) := by decide +kernel
theorem dX1_best_5 : decode cX1_best 5 = .ok (.iload 4, 2) := by decide +kernel
theorem dX1_best_7 : decode cX1_best 7 = .ok (.iconst 4, 1) := by decide +kernel
theorem dX1_best_8 : decode cX1_best 8 = .ok (.if_icmp .ge 38, 3) := by decide +kernel
theorem dX1_best_11 : decode cX1_best 11 = .ok (.aload_n 0, 1) := by decide +kernel
theorem dX1_best_12 : decode cX1_best 12 = .ok (.iload_n 1, 1) := by decide +kernel
theorem dX1_best_13 : decode cX1_best 13 = .ok (.iload_n 2, 1) := by decide +kernel
theorem dX1_best_14 : decode cX1_best 14 = .ok (.iload 4, 2) := by decide +kernel
theorem dX1_best_16 : decode cX1_best 16 = .ok (.invokevirtual 63, 3) := by decide +kernel
theorem dX1_best_19 : decode cX1_best 19 = .ok (.istore 5, 2) := by decide +kernel
theorem dX1_best_21 : decode cX1_best 21 = .ok (.iload 5, 2) := by decide +kernel
theorem dX1_best_23 : decode cX1_best 23 = .ok (.aload_n 0, 1) := by decide +kernel
theorem dX1_best_24 : decode cX1_best 24 = .ok (.iload_n 1, 1) := by decide +kernel
theorem dX1_best_25 : decode cX1_best 25 = .ok (.iload_n 2, 1) := by decide +kernel
theorem dX1_best_26 : decode cX1_best 26 = .ok (.iload_n 3, 1) := by decide +kernel
theorem dX1_best_27 : decode cX1_best 27 = .ok (.invokevirtual 63, 3) := by decide +kernel
theorem dX1_best_30 : decode cX1_best 30 = .ok (.if_icmp .ge 8, 3) := by decide +kernel
theorem dX1_best_33 : decode cX1_best 33 = .ok (.iload 4, 2) := by decide +kernel
theorem dX1_best_35 : decode cX1_best 35 = .ok (.goto 4, 3) := by decide +kernel
theorem dX1_best_38 : decode cX1_best 38 = .ok (.iload_n 3, 1) := by decide +kernel
theorem dX1_best_39 : decode cX1_best 39 = .ok (.istore_n 3, 1) := by decide +kernel
theorem dX1_best_40 : decode cX1_best 40 = .ok (.iinc 4 1, 3) := by decide +kernel
theorem dX1_best_43 : decode cX1_best 43 = .ok (.goto (-38), 3) := by decide +kernel
theorem dX1_best_46 : decode cX1_best 46 = .ok (.iload_n 3, 1) := by decide +kernel
theorem dX1_best_47 : decode cX1_best 47 = .ok (.ireturn, 1) := by decide +kernel
theorem dX1_lacks_0 : decode cX1_lacks 0 = .ok (.aload_n 0, 1) := by decide +kernel
theorem dX1_lacks_1 : decode cX1_lacks 1 = .ok (.iload_n 2, 1) := by decide +kernel
theorem dX1_lacks_2 : decode cX1_lacks 2 = .ok (.invokestatic 30, 3) := by decide +kernel
theorem dX1_lacks_5 : decode cX1_lacks 5 = .ok (.ifCond .ne 7, 3) := by decide +kernel
theorem dX1_lacks_8 : decode cX1_lacks 8 = .ok (.iconst 1, 1) := by decide +kernel
theorem dX1_lacks_9 : decode cX1_lacks 9 = .ok (.goto 23, 3) := by decide +kernel
theorem dX1_lacks_12 : decode cX1_lacks 12 = .ok (.iload_n 1, 1) := by decide +kernel
theorem dX1_lacks_13 : decode cX1_lacks 13 = .ok (.ifCond .lt 14, 3) := by decide +kernel
theorem dX1_lacks_16 : decode cX1_lacks 16 = .ok (.iload_n 1, 1) := by decide +kernel
theorem dX1_lacks_17 : decode cX1_lacks 17 = .ok (.aload_n 0, 1) := by decide +kernel
theorem dX1_lacks_18 : decode cX1_lacks 18 = .ok (.getfield 27, 3) := by decide +kernel
theorem dX1_lacks_21 : decode cX1_lacks 21 = .ok (.bipush 16, 2) := by decide +kernel
theorem dX1_lacks_23 : decode cX1_lacks 23 = .ok (.idiv, 1) := by decide +kernel
theorem dX1_lacks_24 : decode cX1_lacks 24 = .ok (.if_icmp .lt 7, 3) := by decide +kernel
theorem dX1_lacks_27 : decode cX1_lacks 27 = .ok (.iconst 2, 1) := by decide +kernel
theorem dX1_lacks_28 : decode cX1_lacks 28 = .ok (.goto 4, 3) := by decide +kernel
theorem dX1_lacks_31 : decode cX1_lacks 31 = .ok (.iconst 0, 1) := by decide +kernel
theorem dX1_lacks_32 : decode cX1_lacks 32 = .ok (.putfield 23, 3) := by decide +kernel
theorem dX1_lacks_35 : decode cX1_lacks 35 = .ok (.aload_n 0, 1) := by decide +kernel
theorem dX1_lacks_36 : decode cX1_lacks 36 = .ok (.getfield 23, 3) := by decide +kernel
theorem dX1_lacks_39 : decode cX1_lacks 39 = .ok (.ifCond .le 7, 3) := by decide +kernel
theorem dX1_lacks_42 : decode cX1_lacks 42 = .ok (.iconst 1, 1) := by decide +kernel
theorem dX1_lacks_43 : decode cX1_lacks 43 = .ok (.goto 4, 3) := by decide +kernel
theorem dX1_lacks_46 : decode cX1_lacks 46 = .ok (.iconst 0, 1) := by decide +kernel
theorem dX1_lacks_47 : decode cX1_lacks 47 = .ok (.ireturn, 1) := by decide +kernel
theorem dX1_way_0 : decode cX1_way 0 = .ok (.aload_n 0, 1) := by decide +kernel
theorem dX1_way_1 : decode cX1_way 1 = .ok (.iload_n 1, 1) := by decide +kernel
theorem dX1_way_2 : decode cX1_way 2 = .ok (.iload_n 2, 1) := by decide +kernel
theorem dX1_way_3 : decode cX1_way 3 = .ok (.invokevirtual 67, 3) := by decide +kernel
theorem dX1_way_6 : decode cX1_way 6 = .ok (.ifCond .eq 7, 3) := by decide +kernel
theorem dX1_way_9 : decode cX1_way 9 = .ok (.iconst 0, 1) := by decide +kernel
theorem dX1_way_10 : decode cX1_way 10 = .ok (.goto 9, 3) := by decide +kernel
theorem dX1_way_13 : decode cX1_way 13 = .ok (.aload_n 0, 1) := by decide +kernel
theorem dX1_way_14 : decode cX1_way 14 = .ok (.iload_n 1, 1) := by decide +kernel
theorem dX1_way_15 : decode cX1_way 15 = .ok (.iload_n 2, 1) := by decide +kernel
theorem dX1_way_16 : decode cX1_way 16 = .ok (.invokevirtual 71, 3) := by decide +kernel
theorem dX1_way_19 : decode cX1_way 19 = .ok (.ireturn, 1) := by decide +kernel
theorem dX1_bits_0 : decode cX1_bits 0 = .ok (.aload_n 0, 1) := by decide +kernel
theorem dX1_bits_1 : decode cX1_bits 1 = .ok (.iload_n 1, 1) := by decide +kernel
theorem dX1_bits_2 : decode cX1_bits 2 = .ok (.iload_n 2, 1) := by decide +kernel
theorem dX1_bits_3 : decode cX1_bits 3 = .ok (.invokevirtual 67, 3) := by decide +kernel
theorem dX1_bits_6 : decode cX1_bits 6 = .ok (.ifCond .eq 5, 3) := by decide +kernel
theorem dX1_bits_9 : decode cX1_bits 9 = .ok (.iconst 0, 1) := by decide +kernel
theorem dX1_bits_10 : decode cX1_bits 10 = .ok (.ireturn, 1) := by decide +kernel
theorem dX1_bits_11 : decode cX1_bits 11 = .ok (.aload_n 0, 1) := by decide +kernel
theorem dX1_bits_12 : decode cX1_bits 12 = .ok (.iload_n 1, 1) := by decide +kernel
theorem dX1_bits_13 : decode cX1_bits 13 = .ok (.iload_n 2, 1) := by decide +kernel
theorem dX1_bits_14 : decode cX1_bits 14 = .ok (.invokevirtual 71, 3) := by decide +kernel
theorem dX1_bits_17 : decode cX1_bits 17 = .ok (.istore_n 3, 1) := by decide +kernel
theorem dX1_bits_18 : decode cX1_bits 18 = .ok (.aload_n 0, 1) := by decide +kernel
theorem dX1_bits_19 : decode cX1_bits 19 = .ok (.iload_n 1, 1) := by decide +kernel
theorem dX1_bits_20 : decode cX1_bits 20 = .ok (.iload_n 2, 1) := by decide +kernel
theorem dX1_bits_21 : decode cX1_bits 21 = .ok (.iload_n 3, 1) := by decide +kernel
theorem dX1_bits_22 : decode cX1_bits 22 = .ok (.invokevirtual 63, 3) := by decide +kernel
theorem dX1_bits_25 : decode cX1_bits 25 = .ok (.ireturn, 1) := by decide +kernel
theorem dX1_sum_0 : decode cX1_sum 0 = .ok (.aload_n 0, 1) := by decide +kernel
theorem dX1_sum_1 : decode cX1_sum 1 = .ok (.iload_n 1, 1) := by decide +kernel
theorem dX1_sum_2 : decode cX1_sum 2 = .ok (.invokestatic 30, 3) := by decide +kernel
theorem dX1_sum_5 : decode cX1_sum 5 = .ok (.ifCond .eq 7, 3) := by decide +kernel
theorem dX1_sum_8 : decode cX1_sum 8 = .ok (.iconst 0, 1) := by decide +kernel
theorem dX1_sum_9 : decode cX1_sum 9 = .ok (.goto 4, 3) := by decide +kernel
theorem dX1_sum_12 : decode cX1_sum 12 = .ok (.iconst 1, 1) := by decide +kernel
theorem dX1_sum_13 : decode cX1_sum 13 = .ok (.putfield 23, 3) := by decide +kernel
theorem dX1_sum_16 : decode cX1_sum 16 = .ok (.lconst 0, 1) := by decide +kernel
theorem dX1_sum_17 : decode cX1_sum 17 = .ok (.lstore_n 2, 1) := by decide +kernel
theorem dX1_sum_18 : decode cX1_sum 18 = .ok (.iconst 0, 1) := by decide +kernel
theorem dX1_sum_19 : decode cX1_sum 19 = .ok (.istore 4, 2) := by decide +kernel
theorem dX1_sum_21 : decode cX1_sum 21 = .ok (.iload 4, 2) := by decide +kernel
theorem dX1_sum_23 : decode cX1_sum 23 = .ok (.aload_n 0, 1) := by decide +kernel
theorem dX1_sum_24 : decode cX1_sum 24 = .ok (.getfield 27, 3) := by decide +kernel
theorem dX1_sum_27 : decode cX1_sum 27 = .ok (.if_icmp .ge 43, 3) := by decide +kernel
theorem dX1_sum_30 : decode cX1_sum 30 = .ok (.aload_n 0, 1) := by decide +kernel
theorem dX1_sum_31 : decode cX1_sum 31 = .ok (.getfield 23, 3) := by decide +kernel
theorem dX1_sum_34 : decode cX1_sum 34 = .ok (.ifCond .ne 36, 3) := by decide +kernel
theorem dX1_sum_37 : decode cX1_sum 37 = .ok (.lload_n 2, 1) := by decide +kernel
theorem dX1_sum_38 : decode cX1_sum 38 = .ok (.aload_n 0, 1) := by decide +kernel
theorem dX1_sum_39 : decode cX1_sum 39 = .ok (.iload 4, 2) := by decide +kernel
theorem dX1_sum_41 : decode cX1_sum 41 = .ok (.invokevirtual 41, 3) := by decide +kernel
theorem dX1_sum_44 : decode cX1_sum 44 = .ok (.ifCond .eq 17, 3) := by decide +kernel
theorem dX1_sum_47 : decode cX1_sum 47 = .ok (.aload_n 0, 1) := by decide +kernel
theorem dX1_sum_48 : decode cX1_sum 48 = .ok (.getfield 7, 3) := by decide +kernel
theorem dX1_sum_51 : decode cX1_sum 51 = .ok (.iconst 4, 1) := by decide +kernel
theorem dX1_sum_52 : decode cX1_sum 52 = .ok (.iload 4, 2) := by decide +kernel
theorem dX1_sum_54 : decode cX1_sum 54 = .ok (.imul, 1) := by decide +kernel
theorem dX1_sum_55 : decode cX1_sum 55 = .ok (.iload_n 1, 1) := by decide +kernel
theorem dX1_sum_56 : decode cX1_sum 56 = .ok (.iadd, 1) := by decide +kernel
theorem dX1_sum_57 : decode cX1_sum 57 = .ok (.laload, 1) := by decide +kernel
theorem dX1_sum_58 : decode cX1_sum 58 = .ok (.goto 4, 3) := by decide +kernel
theorem dX1_sum_61 : decode cX1_sum 61 = .ok (.lconst 0, 1) := by decide +kernel
theorem dX1_sum_62 : decode cX1_sum 62 = .ok (.ladd, 1) := by decide +kernel
theorem dX1_sum_63 : decode cX1_sum 63 = .ok (.lstore_n 2, 1) := by decide +kernel
theorem dX1_sum_64 : decode cX1_sum 64 = .ok (.iinc 4 1, 3) := by decide +kernel
theorem dX1_sum_67 : decode cX1_sum 67 = .ok (.goto (-46), 3) := by decide +kernel
theorem dX1_sum_70 : decode cX1_sum 70 = .ok (.lload_n 2, 1) := by decide +kernel
theorem dX1_sum_71 : decode cX1_sum 71 = .ok (.lreturn, 1) := by decide +kernel
theorem dX1_bound_0 : decode cX1_bound 0 = .ok (.aload_n 0, 1) := by decide +kernel
theorem dX1_bound_1 : decode cX1_bound 1 = .ok (.iload_n 1, 1) := by decide +kernel
theorem dX1_bound_2 : decode cX1_bound 2 = .ok (.invokestatic 30, 3) := by decide +kernel
theorem dX1_bound_5 : decode cX1_bound 5 = .ok (.ifCond .ne 7, 3) := by decide +kernel
theorem dX1_bound_8 : decode cX1_bound 8 = .ok (.iconst 1, 1) := by decide +kernel
theorem dX1_bound_9 : decode cX1_bound 9 = .ok (.goto 15, 3) := by decide +kernel
theorem dX1_bound_12 : decode cX1_bound 12 = .ok (.aload_n 0, 1) := by decide +kernel
theorem dX1_bound_13 : decode cX1_bound 13 = .ok (.invokevirtual 44, 3) := by decide +kernel
theorem dX1_bound_16 : decode cX1_bound 16 = .ok (.ifCond .ne 7, 3) := by decide +kernel
theorem dX1_bound_19 : decode cX1_bound 19 = .ok (.iconst 2, 1) := by decide +kernel
theorem dX1_bound_20 : decode cX1_bound 20 = .ok (.goto 4, 3) := by decide +kernel
theorem dX1_bound_23 : decode cX1_bound 23 = .ok (.iconst 0, 1) := by decide +kernel
theorem dX1_bound_24 : decode cX1_bound 24 = .ok (.putfield 23, 3) := by decide +kernel
theorem dX1_bound_27 : decode cX1_bound 27 = .ok (.iload_n 2, 1) := by decide +kernel
theorem dX1_bound_28 : decode cX1_bound 28 = .ok (.ifCond .eq 9, 3) := by decide +kernel
theorem dX1_bound_31 : decode cX1_bound 31 = .ok (.ldc2_w 75, 3) := by decide +kernel
theorem dX1_bound_34 : decode cX1_bound 34 = .ok (.goto 6, 3) := by decide +kernel
theorem dX1_bound_37 : decode cX1_bound 37 = .ok (.ldc2_w 77, 3) := by decide +kernel
theorem dX1_bound_40 : decode cX1_bound 40 = .ok (.lstore_n 3, 1) := by decide +kernel
theorem dX1_bound_41 : decode cX1_bound 41 = .ok (.iconst 0, 1) := by decide +kernel
theorem dX1_bound_42 : decode cX1_bound 42 = .ok (.istore 5, 2) := by decide +kernel
theorem dX1_bound_44 : decode cX1_bound 44 = .ok (.iload 5, 2) := by decide +kernel
theorem dX1_bound_46 : decode cX1_bound 46 = .ok (.aload_n 0, 1) := by decide +kernel
theorem dX1_bound_47 : decode cX1_bound 47 = .ok (.getfield 27, 3) := by decide +kernel
theorem dX1_bound_50 : decode cX1_bound 50 = .ok (.if_icmp .ge 66, 3) := by decide +kernel
theorem dX1_bound_53 : decode cX1_bound 53 = .ok (.aload_n 0, 1) := by decide +kernel
theorem dX1_bound_54 : decode cX1_bound 54 = .ok (.getfield 23, 3) := by decide +kernel
theorem dX1_bound_57 : decode cX1_bound 57 = .ok (.ifCond .ne 59, 3) := by decide +kernel
theorem dX1_bound_60 : decode cX1_bound 60 = .ok (.aload_n 0, 1) := by decide +kernel
theorem dX1_bound_61 : decode cX1_bound 61 = .ok (.getfield 7, 3) := by decide +kernel
theorem dX1_bound_64 : decode cX1_bound 64 = .ok (.iconst 4, 1) := by decide +kernel
theorem dX1_bound_65 : decode cX1_bound 65 = .ok (.iload 5, 2) := by decide +kernel
theorem dX1_bound_67 : decode cX1_bound 67 = .ok (.imul, 1) := by decide +kernel
theorem dX1_bound_68 : decode cX1_bound 68 = .ok (.iload_n 1, 1) := by decide +kernel
theorem dX1_bound_69 : decode cX1_bound 69 = .ok (.iadd, 1) := by decide +kernel
theorem dX1_bound_70 : decode cX1_bound 70 = .ok (.laload, 1) := by decide +kernel
theorem dX1_bound_71 : decode cX1_bound 71 = .ok (.lstore 6, 2) := by decide +kernel
theorem dX1_bound_73 : decode cX1_bound 73 = .ok (.aload_n 0, 1) := by decide +kernel
theorem dX1_bound_74 : decode cX1_bound 74 = .ok (.iload 5, 2) := by decide +kernel
theorem dX1_bound_76 : decode cX1_bound 76 = .ok (.invokevirtual 41, 3) := by decide +kernel
theorem dX1_bound_79 : decode cX1_bound 79 = .ok (.ifCond .eq 29, 3) := by decide +kernel
theorem dX1_bound_82 : decode cX1_bound 82 = .ok (.iload_n 2, 1) := by decide +kernel
theorem dX1_bound_83 : decode cX1_bound 83 = .ok (.ifCond .eq 13, 3) := by decide +kernel
theorem dX1_bound_86 : decode cX1_bound 86 = .ok (.lload 6, 2) := by decide +kernel
theorem dX1_bound_88 : decode cX1_bound 88 = .ok (.lload_n 3, 1) := by decide +kernel
theorem dX1_bound_89 : decode cX1_bound 89 = .ok (.lcmp, 1) := by decide +kernel
theorem dX1_bound_90 : decode cX1_bound 90 = .ok (.ifCond .le 18, 3) := by decide +kernel
theorem dX1_bound_93 : decode cX1_bound 93 = .ok (.goto 10, 3) := by decide +kernel
theorem dX1_bound_96 : decode cX1_bound 96 = .ok (.lload 6, 2) := by decide +kernel
theorem dX1_bound_98 : decode cX1_bound 98 = .ok (.lload_n 3, 1) := by decide +kernel
theorem dX1_bound_99 : decode cX1_bound 99 = .ok (.lcmp, 1) := by decide +kernel
theorem dX1_bound_100 : decode cX1_bound 100 = .ok (.ifCond .ge 8, 3) := by decide +kernel
theorem dX1_bound_103 : decode cX1_bound 103 = .ok (.lload 6, 2) := by decide +kernel
theorem dX1_bound_105 : decode cX1_bound 105 = .ok (.goto 4, 3) := by decide +kernel
theorem dX1_bound_108 : decode cX1_bound 108 = .ok (.lload_n 3, 1) := by decide +kernel
theorem dX1_bound_109 : decode cX1_bound 109 = .ok (.lstore_n 3, 1) := by decide +kernel
theorem dX1_bound_110 : decode cX1_bound 110 = .ok (.iinc 5 1, 3) := by decide +kernel
theorem dX1_bound_113 : decode cX1_bound 113 = .ok (.goto (-69), 3) := by decide +kernel
theorem dX1_bound_116 : decode cX1_bound 116 = .ok (.aload_n 0, 1) := by decide +kernel
theorem dX1_bound_117 : decode cX1_bound 117 = .ok (.getfield 23, 3) := by decide +kernel
theorem dX1_bound_120 : decode cX1_bound 120 = .ok (.ifCond .ne 7, 3) := by decide +kernel
theorem dX1_bound_123 : decode cX1_bound 123 = .ok (.lload_n 3, 1) := by decide +kernel
theorem dX1_bound_124 : decode cX1_bound 124 = .ok (.goto 4, 3) := by decide +kernel
theorem dX1_bound_127 : decode cX1_bound 127 = .ok (.lconst 0, 1) := by decide +kernel
theorem dX1_bound_128 : decode cX1_bound 128 = .ok (.lreturn, 1) := by decide +kernel
theorem dX1_ranked_0 : decode cX1_ranked 0 = .ok (.aload_n 0, 1) := by decide +kernel
theorem dX1_ranked_1 : decode cX1_ranked 1 = .ok (.iload_n 1, 1) := by decide +kernel
theorem dX1_ranked_2 : decode cX1_ranked 2 = .ok (.invokestatic 30, 3) := by decide +kernel
theorem dX1_ranked_5 : decode cX1_ranked 5 = .ok (.ifCond .ne 7, 3) := by decide +kernel
theorem dX1_ranked_8 : decode cX1_ranked 8 = .ok (.iconst 1, 1) := by decide +kernel
theorem dX1_ranked_9 : decode cX1_ranked 9 = .ok (.goto 4, 3) := by decide +kernel
theorem dX1_ranked_12 : decode cX1_ranked 12 = .ok (.iconst 0, 1) := by decide +kernel
theorem dX1_ranked_13 : decode cX1_ranked 13 = .ok (.putfield 23, 3) := by decide +kernel
theorem dX1_ranked_16 : decode cX1_ranked 16 = .ok (.aload_n 0, 1) := by decide +kernel
theorem dX1_ranked_17 : decode cX1_ranked 17 = .ok (.getfield 23, 3) := by decide +kernel
theorem dX1_ranked_20 : decode cX1_ranked 20 = .ok (.ifCond .le 5, 3) := by decide +kernel
theorem dX1_ranked_23 : decode cX1_ranked 23 = .ok (.iconst 0, 1) := by decide +kernel
theorem dX1_ranked_24 : decode cX1_ranked 24 = .ok (.ireturn, 1) := by decide +kernel
theorem dX1_ranked_25 : decode cX1_ranked 25 = .ok (.iconst 0, 1) := by decide +kernel
theorem dX1_ranked_26 : decode cX1_ranked 26 = .ok (.istore_n 3, 1) := by decide +kernel
theorem dX1_ranked_27 : decode cX1_ranked 27 = .ok (.iload_n 3, 1) := by decide +kernel
theorem dX1_ranked_28 : decode cX1_ranked 28 = .ok (.aload_n 0, 1) := by decide +kernel
theorem dX1_ranked_29 : decode cX1_ranked 29 = .ok (.getfield 27, 3) := by decide +kernel
theorem dX1_ranked_32 : decode cX1_ranked 32 = .ok (.if_icmp .ge 112, 3) := by decide +kernel
theorem dX1_ranked_35 : decode cX1_ranked 35 = .ok (.iconst 0, 1) := by decide +kernel
theorem dX1_ranked_36 : decode cX1_ranked 36 = .ok (.istore 4, 2) := by decide +kernel
theorem dX1_ranked_38 : decode cX1_ranked 38 = .ok (.iconst 0, 1) := by decide +kernel
theorem dX1_ranked_39 : decode cX1_ranked 39 = .ok (.istore 5, 2) := by decide +kernel
theorem dX1_ranked_41 : decode cX1_ranked 41 = .ok (.iload 5, 2) := by decide +kernel
theorem dX1_ranked_43 : decode cX1_ranked 43 = .ok (.aload_n 0, 1) := by decide +kernel
theorem dX1_ranked_44 : decode cX1_ranked 44 = .ok (.getfield 27, 3) := by decide +kernel
theorem dX1_ranked_47 : decode cX1_ranked 47 = .ok (.if_icmp .ge 75, 3) := by decide +kernel
theorem dX1_ranked_50 : decode cX1_ranked 50 = .ok (.aload_n 0, 1) := by decide +kernel
theorem dX1_ranked_51 : decode cX1_ranked 51 = .ok (.getfield 7, 3) := by decide +kernel
theorem dX1_ranked_54 : decode cX1_ranked 54 = .ok (.iconst 4, 1) := by decide +kernel
theorem dX1_ranked_55 : decode cX1_ranked 55 = .ok (.iload 5, 2) := by decide +kernel
theorem dX1_ranked_57 : decode cX1_ranked 57 = .ok (.imul, 1) := by decide +kernel
theorem dX1_ranked_58 : decode cX1_ranked 58 = .ok (.iload_n 1, 1) := by decide +kernel
theorem dX1_ranked_59 : decode cX1_ranked 59 = .ok (.iadd, 1) := by decide +kernel
theorem dX1_ranked_60 : decode cX1_ranked 60 = .ok (.laload, 1) := by decide +kernel
theorem dX1_ranked_61 : decode cX1_ranked 61 = .ok (.lstore 6, 2) := by decide +kernel
theorem dX1_ranked_63 : decode cX1_ranked 63 = .ok (.aload_n 0, 1) := by decide +kernel
theorem dX1_ranked_64 : decode cX1_ranked 64 = .ok (.getfield 7, 3) := by decide +kernel
theorem dX1_ranked_67 : decode cX1_ranked 67 = .ok (.iconst 4, 1) := by decide +kernel
theorem dX1_ranked_68 : decode cX1_ranked 68 = .ok (.iload_n 3, 1) := by decide +kernel
theorem dX1_ranked_69 : decode cX1_ranked 69 = .ok (.imul, 1) := by decide +kernel
theorem dX1_ranked_70 : decode cX1_ranked 70 = .ok (.iload_n 1, 1) := by decide +kernel
theorem dX1_ranked_71 : decode cX1_ranked 71 = .ok (.iadd, 1) := by decide +kernel
theorem dX1_ranked_72 : decode cX1_ranked 72 = .ok (.laload, 1) := by decide +kernel
theorem dX1_ranked_73 : decode cX1_ranked 73 = .ok (.lstore 8, 2) := by decide +kernel
theorem dX1_ranked_75 : decode cX1_ranked 75 = .ok (.iload 4, 2) := by decide +kernel
theorem dX1_ranked_77 : decode cX1_ranked 77 = .ok (.aload_n 0, 1) := by decide +kernel
theorem dX1_ranked_78 : decode cX1_ranked 78 = .ok (.iload 5, 2) := by decide +kernel
theorem dX1_ranked_80 : decode cX1_ranked 80 = .ok (.invokevirtual 41, 3) := by decide +kernel
theorem dX1_ranked_83 : decode cX1_ranked 83 = .ok (.ifCond .eq 29, 3) := by decide +kernel
theorem dX1_ranked_86 : decode cX1_ranked 86 = .ok (.lload 6, 2) := by decide +kernel
theorem dX1_ranked_88 : decode cX1_ranked 88 = .ok (.lload 8, 2) := by decide +kernel
theorem dX1_ranked_90 : decode cX1_ranked 90 = .ok (.lcmp, 1) := by decide +kernel
theorem dX1_ranked_91 : decode cX1_ranked 91 = .ok (.ifCond .gt 17, 3) := by decide +kernel
theorem dX1_ranked_94 : decode cX1_ranked 94 = .ok (.lload 6, 2) := by decide +kernel
theorem dX1_ranked_96 : decode cX1_ranked 96 = .ok (.lload 8, 2) := by decide +kernel
theorem dX1_ranked_98 : decode cX1_ranked 98 = .ok (.lcmp, 1) := by decide +kernel
theorem dX1_ranked_99 : decode cX1_ranked 99 = .ok (.ifCond .ne 13, 3) := by decide +kernel
theorem dX1_ranked_102 : decode cX1_ranked 102 = .ok (.iload 5, 2) := by decide +kernel
theorem dX1_ranked_104 : decode cX1_ranked 104 = .ok (.iload_n 3, 1) := by decide +kernel
theorem dX1_ranked_105 : decode cX1_ranked 105 = .ok (.if_icmp .ge 7, 3) := by decide +kernel
theorem dX1_ranked_108 : decode cX1_ranked 108 = .ok (.iconst 1, 1) := by decide +kernel
theorem dX1_ranked_109 : decode cX1_ranked 109 = .ok (.goto 4, 3) := by decide +kernel
theorem dX1_ranked_112 : decode cX1_ranked 112 = .ok (.iconst 0, 1) := by decide +kernel
theorem dX1_ranked_113 : decode cX1_ranked 113 = .ok (.iadd, 1) := by decide +kernel
theorem dX1_ranked_114 : decode cX1_ranked 114 = .ok (.istore 4, 2) := by decide +kernel
theorem dX1_ranked_116 : decode cX1_ranked 116 = .ok (.iinc 5 1, 3) := by decide +kernel
theorem dX1_ranked_119 : decode cX1_ranked 119 = .ok (.goto (-78), 3) := by decide +kernel
theorem dX1_ranked_122 : decode cX1_ranked 122 = .ok (.aload_n 0, 1) := by decide +kernel
theorem dX1_ranked_123 : decode cX1_ranked 123 = .ok (.iload_n 3, 1) := by decide +kernel
theorem dX1_ranked_124 : decode cX1_ranked 124 = .ok (.invokevirtual 41, 3) := by decide +kernel
theorem dX1_ranked_127 : decode cX1_ranked 127 = .ok (.ifCond .eq 11, 3) := by decide +kernel
theorem dX1_ranked_130 : decode cX1_ranked 130 = .ok (.iload 4, 2) := by decide +kernel
theorem dX1_ranked_132 : decode cX1_ranked 132 = .ok (.iload_n 2, 1) := by decide +kernel
theorem dX1_ranked_133 : decode cX1_ranked 133 = .ok (.if_icmp .ne 5, 3) := by decide +kernel
theorem dX1_ranked_136 : decode cX1_ranked 136 = .ok (.iload_n 3, 1) := by decide +kernel
theorem dX1_ranked_137 : decode cX1_ranked 137 = .ok (.ireturn, 1) := by decide +kernel
theorem dX1_ranked_138 : decode cX1_ranked 138 = .ok (.iinc 3 1, 3) := by decide +kernel
theorem dX1_ranked_141 : decode cX1_ranked 141 = .ok (.goto (-114), 3) := by decide +kernel
theorem dX1_ranked_144 : decode cX1_ranked 144 = .ok (.aload_n 0, 1) := by decide +kernel
theorem dX1_ranked_145 : decode cX1_ranked 145 = .ok (.iconst 2, 1) := by decide +kernel
theorem dX1_ranked_146 : decode cX1_ranked 146 = .ok (.putfield 23, 3) := by decide +kernel
theorem dX1_ranked_149 : decode cX1_ranked 149 = .ok (.iconst 0, 1) := by decide +kernel
theorem dX1_ranked_150 : decode cX1_ranked 150 = .ok (.ireturn, 1) := by decide +kernel
theorem dX1_isFirst_0 : decode cX1_isFirst 0 = .ok (.aload_n 0, 1) := by decide +kernel
theorem dX1_isFirst_1 : decode cX1_isFirst 1 = .ok (.iload_n 2, 1) := by decide +kernel
theorem dX1_isFirst_2 : decode cX1_isFirst 2 = .ok (.invokevirtual 41, 3) := by decide +kernel
theorem dX1_isFirst_5 : decode cX1_isFirst 5 = .ok (.istore_n 3, 1) := by decide +kernel
theorem dX1_isFirst_6 : decode cX1_isFirst 6 = .ok (.iconst 0, 1) := by decide +kernel
theorem dX1_isFirst_7 : decode cX1_isFirst 7 = .ok (.istore 4, 2) := by decide +kernel
theorem dX1_isFirst_9 : decode cX1_isFirst 9 = .ok (.iload 4, 2) := by decide +kernel
theorem dX1_isFirst_11 : decode cX1_isFirst 11 = .ok (.iload_n 2, 1) := by decide +kernel
theorem dX1_isFirst_12 : decode cX1_isFirst 12 = .ok (.if_icmp .ge 53, 3) := by decide +kernel
theorem dX1_isFirst_15 : decode cX1_isFirst 15 = .ok (.iload_n 3, 1) := by decide +kernel
theorem dX1_isFirst_16 : decode cX1_isFirst 16 = .ok (.ifCond .eq 41, 3) := by decide +kernel
theorem dX1_isFirst_19 : decode cX1_isFirst 19 = .ok (.aload_n 0, 1) := by decide +kernel
theorem dX1_isFirst_20 : decode cX1_isFirst 20 = .ok (.iload 4, 2) := by decide +kernel
theorem dX1_isFirst_22 : decode cX1_isFirst 22 = .ok (.invokevirtual 41, 3) := by decide +kernel
theorem dX1_isFirst_25 : decode cX1_isFirst 25 = .ok (.ifCond .eq 28, 3) := by decide +kernel
theorem dX1_isFirst_28 : decode cX1_isFirst 28 = .ok (.aload_n 0, 1) := by decide +kernel
theorem dX1_isFirst_29 : decode cX1_isFirst 29 = .ok (.getfield 7, 3) := by decide +kernel
theorem dX1_isFirst_32 : decode cX1_isFirst 32 = .ok (.iconst 4, 1) := by decide +kernel
theorem dX1_isFirst_33 : decode cX1_isFirst 33 = .ok (.iload 4, 2) := by decide +kernel
theorem dX1_isFirst_35 : decode cX1_isFirst 35 = .ok (.imul, 1) := by decide +kernel
theorem dX1_isFirst_36 : decode cX1_isFirst 36 = .ok (.iload_n 1, 1) := by decide +kernel
theorem dX1_isFirst_37 : decode cX1_isFirst 37 = .ok (.iadd, 1) := by decide +kernel
theorem dX1_isFirst_38 : decode cX1_isFirst 38 = .ok (.laload, 1) := by decide +kernel
theorem dX1_isFirst_39 : decode cX1_isFirst 39 = .ok (.aload_n 0, 1) := by decide +kernel
theorem dX1_isFirst_40 : decode cX1_isFirst 40 = .ok (.getfield 7, 3) := by decide +kernel
theorem dX1_isFirst_43 : decode cX1_isFirst 43 = .ok (.iconst 4, 1) := by decide +kernel
theorem dX1_isFirst_44 : decode cX1_isFirst 44 = .ok (.iload_n 2, 1) := by decide +kernel
theorem dX1_isFirst_45 : decode cX1_isFirst 45 = .ok (.imul, 1) := by decide +kernel
theorem dX1_isFirst_46 : decode cX1_isFirst 46 = .ok (.iload_n 1, 1) := by decide +kernel
theorem dX1_isFirst_47 : decode cX1_isFirst 47 = .ok (.iadd, 1) := by decide +kernel
theorem dX1_isFirst_48 : decode cX1_isFirst 48 = .ok (.laload, 1) := by decide +kernel
theorem dX1_isFirst_49 : decode cX1_isFirst 49 = .ok (.lcmp, 1) := by decide +kernel
theorem dX1_isFirst_50 : decode cX1_isFirst 50 = .ok (.ifCond .eq 7, 3) := by decide +kernel
theorem dX1_isFirst_53 : decode cX1_isFirst 53 = .ok (.iconst 1, 1) := by decide +kernel
theorem dX1_isFirst_54 : decode cX1_isFirst 54 = .ok (.goto 4, 3) := by decide +kernel
theorem dX1_isFirst_57 : decode cX1_isFirst 57 = .ok (.iconst 0, 1) := by decide +kernel
theorem dX1_isFirst_58 : decode cX1_isFirst 58 = .ok (.istore_n 3, 1) := by decide +kernel
theorem dX1_isFirst_59 : decode cX1_isFirst 59 = .ok (.iinc 4 1, 3) := by decide +kernel
theorem dX1_isFirst_62 : decode cX1_isFirst 62 = .ok (.goto (-53), 3) := by decide +kernel
theorem dX1_isFirst_65 : decode cX1_isFirst 65 = .ok (.iload_n 3, 1) := by decide +kernel
theorem dX1_isFirst_66 : decode cX1_isFirst 66 = .ok (.ireturn, 1) := by decide +kernel
theorem dX1_countGroups_0 : decode cX1_countGroups 0 = .ok (.iconst 0, 1) := by decide +kernel
theorem dX1_countGroups_1 : decode cX1_countGroups 1 = .ok (.istore_n 2, 1) := by decide +kernel
theorem dX1_countGroups_2 : decode cX1_countGroups 2 = .ok (.iconst 0, 1) := by decide +kernel
theorem dX1_countGroups_3 : decode cX1_countGroups 3 = .ok (.istore_n 3, 1) := by decide +kernel
theorem dX1_countGroups_4 : decode cX1_countGroups 4 = .ok (.iload_n 3, 1) := by decide +kernel
theorem dX1_countGroups_5 : decode cX1_countGroups 5 = .ok (.aload_n 0, 1) := by decide +kernel
theorem dX1_countGroups_6 : decode cX1_countGroups 6 = .ok (.getfield 27, 3) := by decide +kernel
theorem dX1_countGroups_9 : decode cX1_countGroups 9 = .ok (.if_icmp .ge 26, 3) := by decide +kernel
theorem dX1_countGroups_12 : decode cX1_countGroups 12 = .ok (.iload_n 2, 1) := by decide +kernel
theorem dX1_countGroups_13 : decode cX1_countGroups 13 = .ok (.aload_n 0, 1) := by decide +kernel
theorem dX1_countGroups_14 : decode cX1_countGroups 14 = .ok (.iload_n 1, 1) := by decide +kernel
theorem dX1_countGroups_15 : decode cX1_countGroups 15 = .ok (.iload_n 3, 1) := by decide +kernel
theorem dX1_countGroups_16 : decode cX1_countGroups 16 = .ok (.invokevirtual 79, 3) := by decide +kernel
theorem dX1_countGroups_19 : decode cX1_countGroups 19 = .ok (.ifCond .eq 7, 3) := by decide +kernel
theorem dX1_countGroups_22 : decode cX1_countGroups 22 = .ok (.iconst 1, 1) := by decide +kernel
theorem dX1_countGroups_23 : decode cX1_countGroups 23 = .ok (.goto 4, 3) := by decide +kernel
theorem dX1_countGroups_26 : decode cX1_countGroups 26 = .ok (.iconst 0, 1) := by decide +kernel
theorem dX1_countGroups_27 : decode cX1_countGroups 27 = .ok (.iadd, 1) := by decide +kernel
theorem dX1_countGroups_28 : decode cX1_countGroups 28 = .ok (.istore_n 2, 1) := by decide +kernel
theorem dX1_countGroups_29 : decode cX1_countGroups 29 = .ok (.iinc 3 1, 3) := by decide +kernel
theorem dX1_countGroups_32 : decode cX1_countGroups 32 = .ok (.goto (-28), 3) := by decide +kernel
theorem dX1_countGroups_35 : decode cX1_countGroups 35 = .ok (.iload_n 2, 1) := by decide +kernel
theorem dX1_countGroups_36 : decode cX1_countGroups 36 = .ok (.ireturn, 1) := by decide +kernel
theorem dX1_groups_0 : decode cX1_groups 0 = .ok (.aload_n 0, 1) := by decide +kernel
theorem dX1_groups_1 : decode cX1_groups 1 = .ok (.iload_n 1, 1) := by decide +kernel
theorem dX1_groups_2 : decode cX1_groups 2 = .ok (.invokestatic 30, 3) := by decide +kernel
theorem dX1_groups_5 : decode cX1_groups 5 = .ok (.ifCond .eq 7, 3) := by decide +kernel
theorem dX1_groups_8 : decode cX1_groups 8 = .ok (.iconst 0, 1) := by decide +kernel
theorem dX1_groups_9 : decode cX1_groups 9 = .ok (.goto 4, 3) := by decide +kernel
theorem dX1_groups_12 : decode cX1_groups 12 = .ok (.iconst 1, 1) := by decide +kernel
theorem dX1_groups_13 : decode cX1_groups 13 = .ok (.putfield 23, 3) := by decide +kernel
theorem dX1_groups_16 : decode cX1_groups 16 = .ok (.aload_n 0, 1) := by decide +kernel
theorem dX1_groups_17 : decode cX1_groups 17 = .ok (.getfield 23, 3) := by decide +kernel
theorem dX1_groups_20 : decode cX1_groups 20 = .ok (.ifCond .ne 11, 3) := by decide +kernel
theorem dX1_groups_23 : decode cX1_groups 23 = .ok (.aload_n 0, 1) := by decide +kernel
theorem dX1_groups_24 : decode cX1_groups 24 = .ok (.iload_n 1, 1) := by decide +kernel
theorem dX1_groups_25 : decode cX1_groups 25 = .ok (.invokevirtual 82, 3) := by decide +kernel
theorem dX1_groups_28 : decode cX1_groups 28 = .ok (.goto 4, 3) := by decide +kernel
theorem dX1_groups_31 : decode cX1_groups 31 = .ok (.iconst 0, 1) := by decide +kernel
theorem dX1_groups_32 : decode cX1_groups 32 = .ok (.ireturn, 1) := by decide +kernel
theorem dX1_firstOf_0 : decode cX1_firstOf 0 = .ok (.iconst 0, 1) := by decide +kernel
theorem dX1_firstOf_1 : decode cX1_firstOf 1 = .ok (.istore_n 3, 1) := by decide +kernel
theorem dX1_firstOf_2 : decode cX1_firstOf 2 = .ok (.iconst 0, 1) := by decide +kernel
theorem dX1_firstOf_3 : decode cX1_firstOf 3 = .ok (.istore 4, 2) := by decide +kernel
theorem dX1_firstOf_5 : decode cX1_firstOf 5 = .ok (.iload 4, 2) := by decide +kernel
theorem dX1_firstOf_7 : decode cX1_firstOf 7 = .ok (.aload_n 0, 1) := by decide +kernel
theorem dX1_firstOf_8 : decode cX1_firstOf 8 = .ok (.getfield 27, 3) := by decide +kernel
theorem dX1_firstOf_11 : decode cX1_firstOf 11 = .ok (.if_icmp .ge 99, 3) := by decide +kernel
theorem dX1_firstOf_14 : decode cX1_firstOf 14 = .ok (.aload_n 0, 1) := by decide +kernel
theorem dX1_firstOf_15 : decode cX1_firstOf 15 = .ok (.iload_n 1, 1) := by decide +kernel
theorem dX1_firstOf_16 : decode cX1_firstOf 16 = .ok (.iload 4, 2) := by decide +kernel
theorem dX1_firstOf_18 : decode cX1_firstOf 18 = .ok (.invokevirtual 79, 3) := by decide +kernel
theorem dX1_firstOf_21 : decode cX1_firstOf 21 = .ok (.ifCond .eq 83, 3) := by decide +kernel
theorem dX1_firstOf_24 : decode cX1_firstOf 24 = .ok (.iconst 0, 1) := by decide +kernel
theorem dX1_firstOf_25 : decode cX1_firstOf 25 = .ok (.istore 5, 2) := by decide +kernel
theorem dX1_firstOf_27 : decode cX1_firstOf 27 = .ok (.iconst 0, 1) := by decide +kernel
theorem dX1_firstOf_28 : decode cX1_firstOf 28 = .ok (.istore 6, 2) := by decide +kernel
theorem dX1_firstOf_30 : decode cX1_firstOf 30 = .ok (.iload 6, 2) := by decide +kernel
theorem dX1_firstOf_32 : decode cX1_firstOf 32 = .ok (.aload_n 0, 1) := by decide +kernel
theorem dX1_firstOf_33 : decode cX1_firstOf 33 = .ok (.getfield 27, 3) := by decide +kernel
theorem dX1_firstOf_36 : decode cX1_firstOf 36 = .ok (.if_icmp .ge 55, 3) := by decide +kernel
theorem dX1_firstOf_39 : decode cX1_firstOf 39 = .ok (.iload 5, 2) := by decide +kernel
theorem dX1_firstOf_41 : decode cX1_firstOf 41 = .ok (.aload_n 0, 1) := by decide +kernel
theorem dX1_firstOf_42 : decode cX1_firstOf 42 = .ok (.iload_n 1, 1) := by decide +kernel
theorem dX1_firstOf_43 : decode cX1_firstOf 43 = .ok (.iload 6, 2) := by decide +kernel
theorem dX1_firstOf_45 : decode cX1_firstOf 45 = .ok (.invokevirtual 79, 3) := by decide +kernel
theorem dX1_firstOf_48 : decode cX1_firstOf 48 = .ok (.ifCond .eq 33, 3) := by decide +kernel
theorem dX1_firstOf_51 : decode cX1_firstOf 51 = .ok (.aload_n 0, 1) := by decide +kernel
theorem dX1_firstOf_52 : decode cX1_firstOf 52 = .ok (.getfield 7, 3) := by decide +kernel
theorem dX1_firstOf_55 : decode cX1_firstOf 55 = .ok (.iconst 4, 1) := by decide +kernel
theorem dX1_firstOf_56 : decode cX1_firstOf 56 = .ok (.iload 6, 2) := by decide +kernel
theorem dX1_firstOf_58 : decode cX1_firstOf 58 = .ok (.imul, 1) := by decide +kernel
theorem dX1_firstOf_59 : decode cX1_firstOf 59 = .ok (.iload_n 1, 1) := by decide +kernel
theorem dX1_firstOf_60 : decode cX1_firstOf 60 = .ok (.iadd, 1) := by decide +kernel
theorem dX1_firstOf_61 : decode cX1_firstOf 61 = .ok (.laload, 1) := by decide +kernel
theorem dX1_firstOf_62 : decode cX1_firstOf 62 = .ok (.aload_n 0, 1) := by decide +kernel
theorem dX1_firstOf_63 : decode cX1_firstOf 63 = .ok (.getfield 7, 3) := by decide +kernel
theorem dX1_firstOf_66 : decode cX1_firstOf 66 = .ok (.iconst 4, 1) := by decide +kernel
theorem dX1_firstOf_67 : decode cX1_firstOf 67 = .ok (.iload 4, 2) := by decide +kernel
theorem dX1_firstOf_69 : decode cX1_firstOf 69 = .ok (.imul, 1) := by decide +kernel
theorem dX1_firstOf_70 : decode cX1_firstOf 70 = .ok (.iload_n 1, 1) := by decide +kernel
theorem dX1_firstOf_71 : decode cX1_firstOf 71 = .ok (.iadd, 1) := by decide +kernel
theorem dX1_firstOf_72 : decode cX1_firstOf 72 = .ok (.laload, 1) := by decide +kernel
theorem dX1_firstOf_73 : decode cX1_firstOf 73 = .ok (.lcmp, 1) := by decide +kernel
theorem dX1_firstOf_74 : decode cX1_firstOf 74 = .ok (.ifCond .ge 7, 3) := by decide +kernel
theorem dX1_firstOf_77 : decode cX1_firstOf 77 = .ok (.iconst 1, 1) := by decide +kernel
theorem dX1_firstOf_78 : decode cX1_firstOf 78 = .ok (.goto 4, 3) := by decide +kernel
theorem dX1_firstOf_81 : decode cX1_firstOf 81 = .ok (.iconst 0, 1) := by decide +kernel
theorem dX1_firstOf_82 : decode cX1_firstOf 82 = .ok (.iadd, 1) := by decide +kernel
theorem dX1_firstOf_83 : decode cX1_firstOf 83 = .ok (.istore 5, 2) := by decide +kernel
theorem dX1_firstOf_85 : decode cX1_firstOf 85 = .ok (.iinc 6 1, 3) := by decide +kernel
theorem dX1_firstOf_88 : decode cX1_firstOf 88 = .ok (.goto (-58), 3) := by decide +kernel
theorem dX1_firstOf_91 : decode cX1_firstOf 91 = .ok (.iload 5, 2) := by decide +kernel
theorem dX1_firstOf_93 : decode cX1_firstOf 93 = .ok (.iload_n 2, 1) := by decide +kernel
theorem dX1_firstOf_94 : decode cX1_firstOf 94 = .ok (.if_icmp .ne 8, 3) := by decide +kernel
theorem dX1_firstOf_97 : decode cX1_firstOf 97 = .ok (.iload 4, 2) := by decide +kernel
theorem dX1_firstOf_99 : decode cX1_firstOf 99 = .ok (.goto 4, 3) := by decide +kernel
theorem dX1_firstOf_102 : decode cX1_firstOf 102 = .ok (.iload_n 3, 1) := by decide +kernel
theorem dX1_firstOf_103 : decode cX1_firstOf 103 = .ok (.istore_n 3, 1) := by decide +kernel
theorem dX1_firstOf_104 : decode cX1_firstOf 104 = .ok (.iinc 4 1, 3) := by decide +kernel
theorem dX1_firstOf_107 : decode cX1_firstOf 107 = .ok (.goto (-102), 3) := by decide +kernel
theorem dX1_firstOf_110 : decode cX1_firstOf 110 = .ok (.iload_n 3, 1) := by decide +kernel
theorem dX1_firstOf_111 : decode cX1_firstOf 111 = .ok (.ireturn, 1) := by decide +kernel
theorem dX1_group_0 : decode cX1_group 0 = .ok (.aload_n 0, 1) := by decide +kernel
theorem dX1_group_1 : decode cX1_group 1 = .ok (.iload_n 1, 1) := by decide +kernel
theorem dX1_group_2 : decode cX1_group 2 = .ok (.invokestatic 30, 3) := by decide +kernel
theorem dX1_group_5 : decode cX1_group 5 = .ok (.ifCond .eq 20, 3) := by decide +kernel
theorem dX1_group_8 : decode cX1_group 8 = .ok (.iload 4, 2) := by decide +kernel
theorem dX1_group_10 : decode cX1_group 10 = .ok (.invokestatic 30, 3) := by decide +kernel
theorem dX1_group_13 : decode cX1_group 13 = .ok (.ifCond .eq 12, 3) := by decide +kernel
theorem dX1_group_16 : decode cX1_group 16 = .ok (.iload_n 3, 1) := by decide +kernel
theorem dX1_group_17 : decode cX1_group 17 = .ok (.ifCond .lt 8, 3) := by decide +kernel
theorem dX1_group_20 : decode cX1_group 20 = .ok (.iload_n 3, 1) := by decide +kernel
theorem dX1_group_21 : decode cX1_group 21 = .ok (.iconst 4, 1) := by decide +kernel
theorem dX1_group_22 : decode cX1_group 22 = .ok (.if_icmp .le 7, 3) := by decide +kernel
theorem dX1_group_25 : decode cX1_group 25 = .ok (.iconst 1, 1) := by decide +kernel
theorem dX1_group_26 : decode cX1_group 26 = .ok (.goto 21, 3) := by decide +kernel
theorem dX1_group_29 : decode cX1_group 29 = .ok (.iload_n 2, 1) := by decide +kernel
theorem dX1_group_30 : decode cX1_group 30 = .ok (.ifCond .lt 12, 3) := by decide +kernel
theorem dX1_group_33 : decode cX1_group 33 = .ok (.iload_n 2, 1) := by decide +kernel
theorem dX1_group_34 : decode cX1_group 34 = .ok (.aload_n 0, 1) := by decide +kernel
theorem dX1_group_35 : decode cX1_group 35 = .ok (.iload_n 1, 1) := by decide +kernel
theorem dX1_group_36 : decode cX1_group 36 = .ok (.invokevirtual 82, 3) := by decide +kernel
theorem dX1_group_39 : decode cX1_group 39 = .ok (.if_icmp .lt 7, 3) := by decide +kernel
theorem dX1_group_42 : decode cX1_group 42 = .ok (.iconst 2, 1) := by decide +kernel
theorem dX1_group_43 : decode cX1_group 43 = .ok (.goto 4, 3) := by decide +kernel
theorem dX1_group_46 : decode cX1_group 46 = .ok (.iconst 0, 1) := by decide +kernel
theorem dX1_group_47 : decode cX1_group 47 = .ok (.putfield 23, 3) := by decide +kernel
theorem dX1_group_50 : decode cX1_group 50 = .ok (.aload_n 0, 1) := by decide +kernel
theorem dX1_group_51 : decode cX1_group 51 = .ok (.getfield 23, 3) := by decide +kernel
theorem dX1_group_54 : decode cX1_group 54 = .ok (.ifCond .le 5, 3) := by decide +kernel
theorem dX1_group_57 : decode cX1_group 57 = .ok (.lconst 0, 1) := by decide +kernel
theorem dX1_group_58 : decode cX1_group 58 = .ok (.lreturn, 1) := by decide +kernel
theorem dX1_group_59 : decode cX1_group 59 = .ok (.aload_n 0, 1) := by decide +kernel
theorem dX1_group_60 : decode cX1_group 60 = .ok (.iload_n 1, 1) := by decide +kernel
theorem dX1_group_61 : decode cX1_group 61 = .ok (.iload_n 2, 1) := by decide +kernel
theorem dX1_group_62 : decode cX1_group 62 = .ok (.invokevirtual 86, 3) := by decide +kernel
theorem dX1_group_65 : decode cX1_group 65 = .ok (.istore 5, 2) := by decide +kernel
theorem dX1_group_67 : decode cX1_group 67 = .ok (.aload_n 0, 1) := by decide +kernel
theorem dX1_group_68 : decode cX1_group 68 = .ok (.getfield 7, 3) := by decide +kernel
theorem dX1_group_71 : decode cX1_group 71 = .ok (.iconst 4, 1) := by decide +kernel
theorem dX1_group_72 : decode cX1_group 72 = .ok (.iload 5, 2) := by decide +kernel
theorem dX1_group_74 : decode cX1_group 74 = .ok (.imul, 1) := by decide +kernel
theorem dX1_group_75 : decode cX1_group 75 = .ok (.iload_n 1, 1) := by decide +kernel
theorem dX1_group_76 : decode cX1_group 76 = .ok (.iadd, 1) := by decide +kernel
theorem dX1_group_77 : decode cX1_group 77 = .ok (.laload, 1) := by decide +kernel
theorem dX1_group_78 : decode cX1_group 78 = .ok (.lstore 6, 2) := by decide +kernel
theorem dX1_group_80 : decode cX1_group 80 = .ok (.aload_n 0, 1) := by decide +kernel
theorem dX1_group_81 : decode cX1_group 81 = .ok (.getfield 7, 3) := by decide +kernel
theorem dX1_group_84 : decode cX1_group 84 = .ok (.iconst 4, 1) := by decide +kernel
theorem dX1_group_85 : decode cX1_group 85 = .ok (.iload 5, 2) := by decide +kernel
theorem dX1_group_87 : decode cX1_group 87 = .ok (.imul, 1) := by decide +kernel
theorem dX1_group_88 : decode cX1_group 88 = .ok (.iload 4, 2) := by decide +kernel
theorem dX1_group_90 : decode cX1_group 90 = .ok (.iadd, 1) := by decide +kernel
theorem dX1_group_91 : decode cX1_group 91 = .ok (.laload, 1) := by decide +kernel
theorem dX1_group_92 : decode cX1_group 92 = .ok (.lstore 8, 2) := by decide +kernel
theorem dX1_group_94 : decode cX1_group 94 = .ok (.lload 8, 2) := by decide +kernel
theorem dX1_group_96 : decode cX1_group 96 = .ok (.lstore 10, 2) := by decide +kernel
theorem dX1_group_98 : decode cX1_group 98 = .ok (.lconst 0, 1) := by decide +kernel
theorem dX1_group_99 : decode cX1_group 99 = .ok (.lstore 12, 2) := by decide +kernel
theorem dX1_group_101 : decode cX1_group 101 = .ok (.iconst 0, 1) := by decide +kernel
theorem dX1_group_102 : decode cX1_group 102 = .ok (.istore 14, 2) := by decide +kernel
theorem dX1_group_104 : decode cX1_group 104 = .ok (.iload 5, 2) := by decide +kernel
theorem dX1_group_106 : decode cX1_group 106 = .ok (.istore 15, 2) := by decide +kernel
theorem dX1_group_108 : decode cX1_group 108 = .ok (.iload 15, 2) := by decide +kernel
theorem dX1_group_110 : decode cX1_group 110 = .ok (.aload_n 0, 1) := by decide +kernel
theorem dX1_group_111 : decode cX1_group 111 = .ok (.getfield 27, 3) := by decide +kernel
theorem dX1_group_114 : decode cX1_group 114 = .ok (.if_icmp .ge 93, 3) := by decide +kernel
theorem dX1_group_117 : decode cX1_group 117 = .ok (.aload_n 0, 1) := by decide +kernel
theorem dX1_group_118 : decode cX1_group 118 = .ok (.iload 15, 2) := by decide +kernel
theorem dX1_group_120 : decode cX1_group 120 = .ok (.invokevirtual 41, 3) := by decide +kernel
theorem dX1_group_123 : decode cX1_group 123 = .ok (.ifCond .eq 78, 3) := by decide +kernel
theorem dX1_group_126 : decode cX1_group 126 = .ok (.aload_n 0, 1) := by decide +kernel
theorem dX1_group_127 : decode cX1_group 127 = .ok (.getfield 7, 3) := by decide +kernel
theorem dX1_group_130 : decode cX1_group 130 = .ok (.iconst 4, 1) := by decide +kernel
theorem dX1_group_131 : decode cX1_group 131 = .ok (.iload 15, 2) := by decide +kernel
theorem dX1_group_133 : decode cX1_group 133 = .ok (.imul, 1) := by decide +kernel
theorem dX1_group_134 : decode cX1_group 134 = .ok (.iload_n 1, 1) := by decide +kernel
theorem dX1_group_135 : decode cX1_group 135 = .ok (.iadd, 1) := by decide +kernel
theorem dX1_group_136 : decode cX1_group 136 = .ok (.laload, 1) := by decide +kernel
theorem dX1_group_137 : decode cX1_group 137 = .ok (.lload 6, 2) := by decide +kernel
theorem dX1_group_139 : decode cX1_group 139 = .ok (.lcmp, 1) := by decide +kernel
theorem dX1_group_140 : decode cX1_group 140 = .ok (.ifCond .ne 61, 3) := by decide +kernel
theorem dX1_group_143 : decode cX1_group 143 = .ok (.aload_n 0, 1) := by decide +kernel
theorem dX1_group_144 : decode cX1_group 144 = .ok (.getfield 7, 3) := by decide +kernel
theorem dX1_group_147 : decode cX1_group 147 = .ok (.iconst 4, 1) := by decide +kernel
theorem dX1_group_148 : decode cX1_group 148 = .ok (.iload 15, 2) := by decide +kernel
theorem dX1_group_150 : decode cX1_group 150 = .ok (.imul, 1) := by decide +kernel
theorem dX1_group_151 : decode cX1_group 151 = .ok (.iload 4, 2) := by decide +kernel
theorem dX1_group_153 : decode cX1_group 153 = .ok (.iadd, 1) := by decide +kernel
theorem dX1_group_154 : decode cX1_group 154 = .ok (.laload, 1) := by decide +kernel
theorem dX1_group_155 : decode cX1_group 155 = .ok (.lstore 16, 2) := by decide +kernel
theorem dX1_group_157 : decode cX1_group 157 = .ok (.iinc 14 1, 3) := by decide +kernel
theorem dX1_group_160 : decode cX1_group 160 = .ok (.lload 12, 2) := by decide +kernel
theorem dX1_group_162 : decode cX1_group 162 = .ok (.lload 16, 2) := by decide +kernel
theorem dX1_group_164 : decode cX1_group 164 = .ok (.ladd, 1) := by decide +kernel
theorem dX1_group_165 : decode cX1_group 165 = .ok (.lstore 12, 2) := by decide +kernel
theorem dX1_group_167 : decode cX1_group 167 = .ok (.lload 16, 2) := by decide +kernel
theorem dX1_group_169 : decode cX1_group 169 = .ok (.lload 8, 2) := by decide +kernel
theorem dX1_group_171 : decode cX1_group 171 = .ok (.lcmp, 1) := by decide +kernel
theorem dX1_group_172 : decode cX1_group 172 = .ok (.ifCond .ge 8, 3) := by decide +kernel
theorem dX1_group_175 : decode cX1_group 175 = .ok (.lload 16, 2) := by decide +kernel
theorem dX1_group_177 : decode cX1_group 177 = .ok (.goto 5, 3) := by decide +kernel
theorem dX1_group_180 : decode cX1_group 180 = .ok (.lload 8, 2) := by decide +kernel
theorem dX1_group_182 : decode cX1_group 182 = .ok (.lstore 8, 2) := by decide +kernel
theorem dX1_group_184 : decode cX1_group 184 = .ok (.lload 16, 2) := by decide +kernel
theorem dX1_group_186 : decode cX1_group 186 = .ok (.lload 10, 2) := by decide +kernel
theorem dX1_group_188 : decode cX1_group 188 = .ok (.lcmp, 1) := by decide +kernel
theorem dX1_group_189 : decode cX1_group 189 = .ok (.ifCond .le 8, 3) := by decide +kernel
theorem dX1_group_192 : decode cX1_group 192 = .ok (.lload 16, 2) := by decide +kernel
theorem dX1_group_194 : decode cX1_group 194 = .ok (.goto 5, 3) := by decide +kernel
theorem dX1_group_197 : decode cX1_group 197 = .ok (.lload 10, 2) := by decide +kernel
theorem dX1_group_199 : decode cX1_group 199 = .ok (.lstore 10, 2) := by decide +kernel
theorem dX1_group_201 : decode cX1_group 201 = .ok (.iinc 15 1, 3) := by decide +kernel
theorem dX1_group_204 : decode cX1_group 204 = .ok (.goto (-96), 3) := by decide +kernel
theorem dX1_group_207 : decode cX1_group 207 = .ok (.iload_n 3, 1) := by decide +kernel
theorem dX1_group_208 : decode cX1_group 208 = .ok (.ifCond .ne 8, 3) := by decide +kernel
theorem dX1_group_211 : decode cX1_group 211 = .ok (.lload 6, 2) := by decide +kernel
theorem dX1_group_213 : decode cX1_group 213 = .ok (.goto 36, 3) := by decide +kernel
theorem dX1_group_216 : decode cX1_group 216 = .ok (.iload_n 3, 1) := by decide +kernel
theorem dX1_group_217 : decode cX1_group 217 = .ok (.iconst 1, 1) := by decide +kernel
theorem dX1_group_218 : decode cX1_group 218 = .ok (.if_icmp .ne 9, 3) := by decide +kernel
theorem dX1_group_221 : decode cX1_group 221 = .ok (.iload 14, 2) := by decide +kernel
theorem dX1_group_223 : decode cX1_group 223 = .ok (.i2l, 1) := by decide +kernel
theorem dX1_group_224 : decode cX1_group 224 = .ok (.goto 25, 3) := by decide +kernel
theorem dX1_group_227 : decode cX1_group 227 = .ok (.iload_n 3, 1) := by decide +kernel
theorem dX1_group_228 : decode cX1_group 228 = .ok (.iconst 2, 1) := by decide +kernel
theorem dX1_group_229 : decode cX1_group 229 = .ok (.if_icmp .ne 8, 3) := by decide +kernel
theorem dX1_group_232 : decode cX1_group 232 = .ok (.lload 12, 2) := by decide +kernel
theorem dX1_group_234 : decode cX1_group 234 = .ok (.goto 15, 3) := by decide +kernel
theorem dX1_group_237 : decode cX1_group 237 = .ok (.iload_n 3, 1) := by decide +kernel
theorem dX1_group_238 : decode cX1_group 238 = .ok (.iconst 3, 1) := by decide +kernel
theorem dX1_group_239 : decode cX1_group 239 = .ok (.if_icmp .ne 8, 3) := by decide +kernel
theorem dX1_group_242 : decode cX1_group 242 = .ok (.lload 8, 2) := by decide +kernel
theorem dX1_group_244 : decode cX1_group 244 = .ok (.goto 5, 3) := by decide +kernel
theorem dX1_group_247 : decode cX1_group 247 = .ok (.lload 10, 2) := by decide +kernel
theorem dX1_group_249 : decode cX1_group 249 = .ok (.lreturn, 1) := by decide +kernel
theorem dX1_pairs_0 : decode cX1_pairs 0 = .ok (.aload_n 0, 1) := by decide +kernel
theorem dX1_pairs_1 : decode cX1_pairs 1 = .ok (.iload_n 1, 1) := by decide +kernel
theorem dX1_pairs_2 : decode cX1_pairs 2 = .ok (.invokestatic 30, 3) := by decide +kernel
theorem dX1_pairs_5 : decode cX1_pairs 5 = .ok (.ifCond .eq 14, 3) := by decide +kernel
theorem dX1_pairs_8 : decode cX1_pairs 8 = .ok (.iload_n 2, 1) := by decide +kernel
theorem dX1_pairs_9 : decode cX1_pairs 9 = .ok (.invokestatic 30, 3) := by decide +kernel
theorem dX1_pairs_12 : decode cX1_pairs 12 = .ok (.ifCond .eq 7, 3) := by decide +kernel
theorem dX1_pairs_15 : decode cX1_pairs 15 = .ok (.iconst 0, 1) := by decide +kernel
theorem dX1_pairs_16 : decode cX1_pairs 16 = .ok (.goto 4, 3) := by decide +kernel
theorem dX1_pairs_19 : decode cX1_pairs 19 = .ok (.iconst 1, 1) := by decide +kernel
theorem dX1_pairs_20 : decode cX1_pairs 20 = .ok (.putfield 23, 3) := by decide +kernel
theorem dX1_pairs_23 : decode cX1_pairs 23 = .ok (.iconst 0, 1) := by decide +kernel
theorem dX1_pairs_24 : decode cX1_pairs 24 = .ok (.istore_n 3, 1) := by decide +kernel
theorem dX1_pairs_25 : decode cX1_pairs 25 = .ok (.iconst 0, 1) := by decide +kernel
theorem dX1_pairs_26 : decode cX1_pairs 26 = .ok (.istore 4, 2) := by decide +kernel
theorem dX1_pairs_28 : decode cX1_pairs 28 = .ok (.iload 4, 2) := by decide +kernel
theorem dX1_pairs_30 : decode cX1_pairs 30 = .ok (.aload_n 0, 1) := by decide +kernel
theorem dX1_pairs_31 : decode cX1_pairs 31 = .ok (.getfield 27, 3) := by decide +kernel
theorem dX1_pairs_34 : decode cX1_pairs 34 = .ok (.if_icmp .ge 84, 3) := by decide +kernel
theorem dX1_pairs_37 : decode cX1_pairs 37 = .ok (.aload_n 0, 1) := by decide +kernel
theorem dX1_pairs_38 : decode cX1_pairs 38 = .ok (.getfield 23, 3) := by decide +kernel
theorem dX1_pairs_41 : decode cX1_pairs 41 = .ok (.ifCond .ne 77, 3) := by decide +kernel
theorem dX1_pairs_44 : decode cX1_pairs 44 = .ok (.iconst 0, 1) := by decide +kernel
theorem dX1_pairs_45 : decode cX1_pairs 45 = .ok (.istore 5, 2) := by decide +kernel
theorem dX1_pairs_47 : decode cX1_pairs 47 = .ok (.iload 5, 2) := by decide +kernel
theorem dX1_pairs_49 : decode cX1_pairs 49 = .ok (.iload 4, 2) := by decide +kernel
theorem dX1_pairs_51 : decode cX1_pairs 51 = .ok (.if_icmp .ge 61, 3) := by decide +kernel
theorem dX1_pairs_54 : decode cX1_pairs 54 = .ok (.aload_n 0, 1) := by decide +kernel
theorem dX1_pairs_55 : decode cX1_pairs 55 = .ok (.iload 4, 2) := by decide +kernel
theorem dX1_pairs_57 : decode cX1_pairs 57 = .ok (.invokevirtual 41, 3) := by decide +kernel
theorem dX1_pairs_60 : decode cX1_pairs 60 = .ok (.ifCond .eq 52, 3) := by decide +kernel
theorem dX1_pairs_63 : decode cX1_pairs 63 = .ok (.iload_n 3, 1) := by decide +kernel
theorem dX1_pairs_64 : decode cX1_pairs 64 = .ok (.aload_n 0, 1) := by decide +kernel
theorem dX1_pairs_65 : decode cX1_pairs 65 = .ok (.iload 5, 2) := by decide +kernel
theorem dX1_pairs_67 : decode cX1_pairs 67 = .ok (.invokevirtual 41, 3) := by decide +kernel
theorem dX1_pairs_70 : decode cX1_pairs 70 = .ok (.ifCond .eq 33, 3) := by decide +kernel
theorem dX1_pairs_73 : decode cX1_pairs 73 = .ok (.aload_n 0, 1) := by decide +kernel
theorem dX1_pairs_74 : decode cX1_pairs 74 = .ok (.getfield 7, 3) := by decide +kernel
theorem dX1_pairs_77 : decode cX1_pairs 77 = .ok (.iconst 4, 1) := by decide +kernel
theorem dX1_pairs_78 : decode cX1_pairs 78 = .ok (.iload 5, 2) := by decide +kernel
theorem dX1_pairs_80 : decode cX1_pairs 80 = .ok (.imul, 1) := by decide +kernel
theorem dX1_pairs_81 : decode cX1_pairs 81 = .ok (.iload_n 1, 1) := by decide +kernel
theorem dX1_pairs_82 : decode cX1_pairs 82 = .ok (.iadd, 1) := by decide +kernel
theorem dX1_pairs_83 : decode cX1_pairs 83 = .ok (.laload, 1) := by decide +kernel
theorem dX1_pairs_84 : decode cX1_pairs 84 = .ok (.aload_n 0, 1) := by decide +kernel
theorem dX1_pairs_85 : decode cX1_pairs 85 = .ok (.getfield 7, 3) := by decide +kernel
theorem dX1_pairs_88 : decode cX1_pairs 88 = .ok (.iconst 4, 1) := by decide +kernel
theorem dX1_pairs_89 : decode cX1_pairs 89 = .ok (.iload 4, 2) := by decide +kernel
theorem dX1_pairs_91 : decode cX1_pairs 91 = .ok (.imul, 1) := by decide +kernel
theorem dX1_pairs_92 : decode cX1_pairs 92 = .ok (.iload_n 2, 1) := by decide +kernel
theorem dX1_pairs_93 : decode cX1_pairs 93 = .ok (.iadd, 1) := by decide +kernel
theorem dX1_pairs_94 : decode cX1_pairs 94 = .ok (.laload, 1) := by decide +kernel
theorem dX1_pairs_95 : decode cX1_pairs 95 = .ok (.lcmp, 1) := by decide +kernel
theorem dX1_pairs_96 : decode cX1_pairs 96 = .ok (.ifCond .ne 7, 3) := by decide +kernel
theorem dX1_pairs_99 : decode cX1_pairs 99 = .ok (.iconst 1, 1) := by decide +kernel
theorem dX1_pairs_100 : decode cX1_pairs 100 = .ok (.goto 4, 3) := by decide +kernel
theorem dX1_pairs_103 : decode cX1_pairs 103 = .ok (.iconst 0, 1) := by decide +kernel
theorem dX1_pairs_104 : decode cX1_pairs 104 = .ok (.iadd, 1) := by decide +kernel
theorem dX1_pairs_105 : decode cX1_pairs 105 = .ok (.istore_n 3, 1) := by decide +kernel
theorem dX1_pairs_106 : decode cX1_pairs 106 = .ok (.iinc 5 1, 3) := by decide +kernel
theorem dX1_pairs_109 : decode cX1_pairs 109 = .ok (.goto (-62), 3) := by decide +kernel
theorem dX1_pairs_112 : decode cX1_pairs 112 = .ok (.iinc 4 1, 3) := by decide +kernel
theorem dX1_pairs_115 : decode cX1_pairs 115 = .ok (.goto (-87), 3) := by decide +kernel
theorem dX1_pairs_118 : decode cX1_pairs 118 = .ok (.iload_n 3, 1) := by decide +kernel
theorem dX1_pairs_119 : decode cX1_pairs 119 = .ok (.ireturn, 1) := by decide +kernel
theorem dX1_purge_0 : decode cX1_purge 0 = .ok (.aload_n 0, 1) := by decide +kernel
theorem dX1_purge_1 : decode cX1_purge 1 = .ok (.iconst 0, 1) := by decide +kernel
theorem dX1_purge_2 : decode cX1_purge 2 = .ok (.putfield 23, 3) := by decide +kernel
theorem dX1_purge_5 : decode cX1_purge 5 = .ok (.iconst 0, 1) := by decide +kernel
theorem dX1_purge_6 : decode cX1_purge 6 = .ok (.istore_n 1, 1) := by decide +kernel
theorem dX1_purge_7 : decode cX1_purge 7 = .ok (.iconst 0, 1) := by decide +kernel
theorem dX1_purge_8 : decode cX1_purge 8 = .ok (.istore_n 2, 1) := by decide +kernel
theorem dX1_purge_9 : decode cX1_purge 9 = .ok (.iload_n 2, 1) := by decide +kernel
theorem dX1_purge_10 : decode cX1_purge 10 = .ok (.aload_n 0, 1) := by decide +kernel
theorem dX1_purge_11 : decode cX1_purge 11 = .ok (.getfield 27, 3) := by decide +kernel
theorem dX1_purge_14 : decode cX1_purge 14 = .ok (.if_icmp .ge 53, 3) := by decide +kernel
theorem dX1_purge_17 : decode cX1_purge 17 = .ok (.aload_n 0, 1) := by decide +kernel
theorem dX1_purge_18 : decode cX1_purge 18 = .ok (.iload_n 2, 1) := by decide +kernel
theorem dX1_purge_19 : decode cX1_purge 19 = .ok (.invokevirtual 41, 3) := by decide +kernel
theorem dX1_purge_22 : decode cX1_purge 22 = .ok (.ifCond .ne 39, 3) := by decide +kernel
theorem dX1_purge_25 : decode cX1_purge 25 = .ok (.iconst 0, 1) := by decide +kernel
theorem dX1_purge_26 : decode cX1_purge 26 = .ok (.istore_n 3, 1) := by decide +kernel
theorem dX1_purge_27 : decode cX1_purge 27 = .ok (.iload_n 3, 1) := by decide +kernel
theorem dX1_purge_28 : decode cX1_purge 28 = .ok (.iconst 4, 1) := by decide +kernel
theorem dX1_purge_29 : decode cX1_purge 29 = .ok (.if_icmp .ge 29, 3) := by decide +kernel
theorem dX1_purge_32 : decode cX1_purge 32 = .ok (.aload_n 0, 1) := by decide +kernel
theorem dX1_purge_33 : decode cX1_purge 33 = .ok (.getfield 7, 3) := by decide +kernel
theorem dX1_purge_36 : decode cX1_purge 36 = .ok (.iconst 4, 1) := by decide +kernel
theorem dX1_purge_37 : decode cX1_purge 37 = .ok (.iload_n 1, 1) := by decide +kernel
theorem dX1_purge_38 : decode cX1_purge 38 = .ok (.imul, 1) := by decide +kernel
theorem dX1_purge_39 : decode cX1_purge 39 = .ok (.iload_n 3, 1) := by decide +kernel
theorem dX1_purge_40 : decode cX1_purge 40 = .ok (.iadd, 1) := by decide +kernel
theorem dX1_purge_41 : decode cX1_purge 41 = .ok (.aload_n 0, 1) := by decide +kernel
theorem dX1_purge_42 : decode cX1_purge 42 = .ok (.getfield 7, 3) := by decide +kernel
theorem dX1_purge_45 : decode cX1_purge 45 = .ok (.iconst 4, 1) := by decide +kernel
theorem dX1_purge_46 : decode cX1_purge 46 = .ok (.iload_n 2, 1) := by decide +kernel
theorem dX1_purge_47 : decode cX1_purge 47 = .ok (.imul, 1) := by decide +kernel
theorem dX1_purge_48 : decode cX1_purge 48 = .ok (.iload_n 3, 1) := by decide +kernel
theorem dX1_purge_49 : decode cX1_purge 49 = .ok (.iadd, 1) := by decide +kernel
theorem dX1_purge_50 : decode cX1_purge 50 = .ok (.laload, 1) := by decide +kernel
theorem dX1_purge_51 : decode cX1_purge 51 = .ok (.lastore, 1) := by decide +kernel
theorem dX1_purge_52 : decode cX1_purge 52 = .ok (.iinc 3 1, 3) := by decide +kernel
theorem dX1_purge_55 : decode cX1_purge 55 = .ok (.goto (-28), 3) := by decide +kernel
theorem dX1_purge_58 : decode cX1_purge 58 = .ok (.iinc 1 1, 3) := by decide +kernel
theorem dX1_purge_61 : decode cX1_purge 61 = .ok (.iinc 2 1, 3) := by decide +kernel
theorem dX1_purge_64 : decode cX1_purge 64 = .ok (.goto (-55), 3) := by decide +kernel
theorem dX1_purge_67 : decode cX1_purge 67 = .ok (.aload_n 0, 1) := by decide +kernel
theorem dX1_purge_68 : decode cX1_purge 68 = .ok (.getfield 27, 3) := by decide +kernel
theorem dX1_purge_71 : decode cX1_purge 71 = .ok (.iload_n 1, 1) := by decide +kernel
theorem dX1_purge_72 : decode cX1_purge 72 = .ok (.isub, 1) := by decide +kernel
theorem dX1_purge_73 : decode cX1_purge 73 = .ok (.istore_n 2, 1) := by decide +kernel
theorem dX1_purge_74 : decode cX1_purge 74 = .ok (.aload_n 0, 1) := by decide +kernel
theorem dX1_purge_75 : decode cX1_purge 75 = .ok (.iload_n 1, 1) := by decide +kernel
theorem dX1_purge_76 : decode cX1_purge 76 = .ok (.putfield 27, 3) := by decide +kernel
theorem dX1_purge_79 : decode cX1_purge 79 = .ok (.iload_n 2, 1) := by decide +kernel
theorem dX1_purge_80 : decode cX1_purge 80 = .ok (.ireturn, 1) := by decide +kernel
end
section
/-! The base of this proof: one list of words for every method, one way into a method, rows over Nat, calls, loops, arrays. -/
section CHB0
/-- the words that every method is given: all good words of the tables -/
def tG : List Cond := lw_tbl.filter goodWord
theorem tG_good : ∀ w ∈ tG, goodWord w = true := fun _ h => (List.mem_filter.mp h).2
theorem tG_in {w : Cond} (h : w ∈ lw_tbl) (hg : goodWord w = true) : w ∈ tG := List.mem_filter.mpr ⟨h, hg⟩
abbrev wA (y : MethodName) (b : ByteArray) (n : Nat) (r : Option FieldType) : List Cond := .code y b n r :: tG
theorem gA {y : MethodName} {b : ByteArray} {n : Nat} {r : Option FieldType} (hc : Cond.code y b n r ∈ tG) : GoodIn tG (wA y b n r) := by
  intro w hw
  rcases List.mem_cons.mp hw with rfl | h
  · exact ⟨hc, good_of_word (tG_good _ hc)⟩
  · exact ⟨h, good_of_word (tG_good _ h)⟩
/-- the room of a method that calls d deep and makes nothing -/
abbrev rN (d : Nat) : Room := { frames := d, cells := 0, slots := 0, locals := 40 * d }
/-- a truth value on the stack -/
def bI (b : Bool) : Int32 := if b then 1 else 0
theorem bI_t : bI true = 1 := rfl
theorem bI_f : bI false = 0 := rfl
theorem bI_nar (b : Bool) : narrow .boolean (.int (bI b)) = .int (bI b) := by cases b <;> rfl
/-- arrays of small numbers; a number set -/
def aN (f : Nat → Nat) : Nat → Int32 := fun j => nI (f j)
def fS {α : Type} (f : Nat → α) (i : Nat) (x : α) : Nat → α := fun j => if j = i then x else f j
theorem fS_s {α : Type} {f : Nat → α} {i : Nat} {x : α} : fS f i x i = x := by simp [fS]
theorem fS_n {α : Type} {f : Nat → α} {i j : Nat} {x : α} (h : j ≠ i) : fS f i x j = f j := by simp [fS, h]
theorem aN_set (f : Nat → Nat) (i x : Nat) : upd (aN f) i (nI x) = aN (fS f i x) := by
  funext j
  by_cases h : j = i
  · subst h; simp [upd, aN, fS]
  · simp [upd, aN, fS, h]
theorem aL_set (f : Nat → Int64) (i : Nat) (x : Int64) : vp_updL f i x = fS f i x := rfl
/-- the table of cells, by row and column; as the hall keeps it (column behind column) and as the reference does (row behind row) -/
def tS (T : Nat → Nat → Int64) (r c : Nat) (v : Int64) : Nat → Nat → Int64 := fun i j => if i = r ∧ j = c then v else T i j
def aT (T : Nat → Nat → Int64) : Nat → Int64 := fun i => T (i % 128) (i / 128)
def aR (T : Nat → Nat → Int64) : Nat → Int64 := fun i => T (i / 4) (i % 4)
theorem aT_at (T : Nat → Nat → Int64) {r c i : Nat} (hi : i = c * 128 + r) (hr : r < 128) : aT T i = T r c := by
  subst hi
  have h1 : (c * 128 + r) % 128 = r := by omega
  have h2 : (c * 128 + r) / 128 = c := by omega
  show T _ _ = _
  rw [h1, h2]
theorem aR_at (T : Nat → Nat → Int64) {r c i : Nat} (hi : i = 4 * r + c) (hc : c < 4) : aR T i = T r c := by
  subst hi
  have h1 : (4 * r + c) % 4 = c := by omega
  have h2 : (4 * r + c) / 4 = r := by omega
  show T _ _ = _
  rw [h1, h2]
theorem aT_set (T : Nat → Nat → Int64) {r c i : Nat} (v : Int64) (hi : i = c * 128 + r) (hr : r < 128) : vp_updL (aT T) i v = aT (tS T r c v) := by
  subst hi
  funext j
  by_cases h : j = c * 128 + r
  · subst h
    have h1 : (c * 128 + r) % 128 = r := by omega
    have h2 : (c * 128 + r) / 128 = c := by omega
    simp [vp_updL, aT, tS, h1, h2]
  · have h1 : ¬ (j % 128 = r ∧ j / 128 = c) := by omega
    simp [vp_updL, aT, tS, h, h1]
theorem aR_set (T : Nat → Nat → Int64) {r c i : Nat} (v : Int64) (hi : i = 4 * r + c) (hc : c < 4) : vp_updL (aR T) i v = aR (tS T r c v) := by
  subst hi
  funext j
  by_cases h : j = 4 * r + c
  · subst h
    have h1 : (4 * r + c) % 4 = c := by omega
    have h2 : (4 * r + c) / 4 = r := by omega
    simp [vp_updL, aR, tS, h1, h2]
  · have h1 : ¬ (j / 4 = r ∧ j % 4 = c) := by omega
    simp [vp_updL, aR, tS, h, h1]
/-- a world whose cells lie at ad 0, ad 1 .. : what may change, and that they are apart -/
def fA (ad : Nat → Nat) (N : Nat) : Nat → Prop := fun q => ∃ i, i < N ∧ q = ad i
def inj (ad : Nat → Nat) (N : Nat) : Prop := ∀ i j, i < N → j < N → ad i = ad j → i = j
theorem dW_at {ad : Nat → Nat} {N : Nat} {ws : va_W} (h : ws.map Prod.fst = (List.range N).map ad) {i : Nat} {p : Nat × va_E} (hp : ws[i]? = some p) : i < N ∧ p.1 = ad i := by
  have h1 : (ws.map Prod.fst)[i]? = some p.1 := by rw [List.getElem?_map, hp]; rfl
  rw [h, List.getElem?_map] at h1
  by_cases hi : i < N
  · rw [List.getElem?_range hi] at h1
    exact ⟨hi, (Option.some.inj h1).symm⟩
  · rw [List.getElem?_eq_none (by simp; omega)] at h1
    cases h1
theorem dW {ad : Nat → Nat} {N : Nat} {ws : va_W} (hN : inj ad N) (h : ws.map Prod.fst = (List.range N).map ad) : va_D (fA ad N) ws := by
  refine ⟨fun i j p q hp hq e => ?_, fun k q hq => ?_⟩
  · obtain ⟨h1, h2⟩ := dW_at h hp
    obtain ⟨h3, h4⟩ := dW_at h hq
    exact hN i j h1 h3 (by rw [← h2, ← h4]; exact e)
  · obtain ⟨h1, h2⟩ := dW_at h hq
    exact ⟨k, h1, h2⟩
/-- numbers -/
theorem inc1 (a : Nat) : nI a + Int32.ofInt 1 = nI (a + 1) := nI_1 a
theorem p31 {a : Nat} (h : a ≤ 1000000) : a < 2 ^ 31 := by omega
end CHB0
section CHB1
/-- into a method -/
theorem met_of {l : Launch} {y : MethodName} {cc : ByteArray} {maxL : Nat} {ret : Option FieldType} {rm : Room} {As : List Value} {B : State → Prop} {Qc : Array Value → State → Outcome → State → Prop} {mc ms : Nat} {free : Addr → Prop} (own : String) (ho : y.cls = own) (hy : plainName y.cls = true) (hn : (lg_sl As).length ≤ maxL)
    (body : ∀ (p : Program) (e : Env) (s : State) (m : MethodId) (below : List Frame) (meth : Method) (c : Code) (ls : Array Slot), CallFix p m c cc maxL s As.toArray tG own → meth.sig.returnType = ret → meth.locks = false → meth.name = y.name → B s → lv_has ls maxL (lv_args 0 As) → W p l e rm s m As.toArray below meth c s.heap [] 0 0 (MQ below Qc As.toArray s mc ms free) (F0 m 0 ls [])) : Met l y (wA y cc maxL ret) rm (va_Pc As B) Qc mc ms free := by
  subst ho
  refine Met.ofW (cc := cc) (maxL := maxL) (ret := ret) hy rfl ?_
  intro p e s m args below meth c s₁ Bd hml hv
  obtain ⟨rfl, hB⟩ := hv
  have hts := atoms_spec (ws := wA y cc maxL ret) Bd.pre
  rw [lg_entry_eq]
  exact body p e s m below meth c _ ⟨Bd.exec, Bd.bytes, hml, findClass_of_methodNamed Bd.named, fun w h => hts w (List.mem_cons_of_mem _ h)⟩ Bd.returns Bd.notSynchronized (name_of_methodNamed Bd.named Bd.method).1 hB (lv_entry As hn)
end CHB1
section CHB2
variable {p : Program} {l : Launch} {e : Env} {R : Room} {s : State} {m : MethodId} {args : Array Value} {below : List Frame} {meth : Method} {c : Code} {H : Heap} {locs : List Loc} {cells slots : Nat} {Q : State → Prop}
variable {cc : ByteArray} {pc : Nat} {ls : Array Slot} {rest : List Value} {nL : Nat} {own : String}
theorem tpi {x y : Int32} (h : x = y) (k : W p l e R s m args below meth c H locs cells slots Q (F0 m pc ls (.int y :: rest))) : W p l e R s m args below meth c H locs cells slots Q (F0 m pc ls (.int x :: rest)) := h ▸ k
theorem tpl {x y : Int64} (h : x = y) (k : W p l e R s m args below meth c H locs cells slots Q (F0 m pc ls (.long y :: rest))) : W p l e R s m args below meth c H locs cells slots Q (F0 m pc ls (.long x :: rest)) := h ▸ k
theorem n_iadd (E : CallFix p m c cc nL s args tG own) {a b : Nat} (hdg : decode cc pc = .ok (.iadd, 1)) (k : W p l e R s m args below meth c H locs cells slots Q (F0 m (pc + 1) ls (.int (nI (a + b)) :: rest))) : W p l e R s m args below meth c H locs cells slots Q (F0 m pc ls (.int (nI b) :: .int (nI a) :: rest)) := lv_iadd E.1 E.2.1 hdg (tpi (nI_add a b) k)
theorem n_isub (E : CallFix p m c cc nL s args tG own) {a b : Nat} (h : b ≤ a) (hdg : decode cc pc = .ok (.isub, 1)) (k : W p l e R s m args below meth c H locs cells slots Q (F0 m (pc + 1) ls (.int (nI (a - b)) :: rest))) : W p l e R s m args below meth c H locs cells slots Q (F0 m pc ls (.int (nI b) :: .int (nI a) :: rest)) := lv_isub E.1 E.2.1 hdg (tpi (pk_sub h) k)
theorem n_imul (E : CallFix p m c cc nL s args tG own) {a b : Nat} (hdg : decode cc pc = .ok (.imul, 1)) (k : W p l e R s m args below meth c H locs cells slots Q (F0 m (pc + 1) ls (.int (nI (a * b)) :: rest))) : W p l e R s m args below meth c H locs cells slots Q (F0 m pc ls (.int (nI b) :: .int (nI a) :: rest)) := lv_imul E.1 E.2.1 hdg (tpi (pk_mul a b) k)
theorem n_icmp_lt (E : CallFix p m c cc nL s args tG own) {a b : Nat} {off : Int} {tgt : Nat} (hdg : decode cc pc = .ok (.if_icmp .lt off, 3)) (ht : (pc : Int) + off = (tgt : Int)) (ha : a < 2 ^ 31) (hb : b < 2 ^ 31)
    (kt : a < b → W p l e R s m args below meth c H locs cells slots Q (F0 m tgt ls rest)) (kf : b ≤ a → W p l e R s m args below meth c H locs cells slots Q (F0 m (pc + 3) ls rest)) : W p l e R s m args below meth c H locs cells slots Q (F0 m pc ls (.int (nI b) :: .int (nI a) :: rest)) :=
  lv_icmp_lt E.1 E.2.1 hdg ht (fun h => kt ((nI_ltI ha hb).mp h)) (fun h => kf (Nat.not_lt.mp fun q => h ((nI_ltI ha hb).mpr q)))
theorem n_icmp_ge (E : CallFix p m c cc nL s args tG own) {a b : Nat} {off : Int} {tgt : Nat} (hdg : decode cc pc = .ok (.if_icmp .ge off, 3)) (ht : (pc : Int) + off = (tgt : Int)) (ha : a < 2 ^ 31) (hb : b < 2 ^ 31)
    (kt : b ≤ a → W p l e R s m args below meth c H locs cells slots Q (F0 m tgt ls rest)) (kf : a < b → W p l e R s m args below meth c H locs cells slots Q (F0 m (pc + 3) ls rest)) : W p l e R s m args below meth c H locs cells slots Q (F0 m pc ls (.int (nI b) :: .int (nI a) :: rest)) :=
  lv_icmp_ge E.1 E.2.1 hdg ht (fun h => kt ((nI_leI hb ha).mp h)) (fun h => kf (Nat.not_le.mp fun q => h ((nI_leI hb ha).mpr q)))
theorem n_icmp_gt (E : CallFix p m c cc nL s args tG own) {a b : Nat} {off : Int} {tgt : Nat} (hdg : decode cc pc = .ok (.if_icmp .gt off, 3)) (ht : (pc : Int) + off = (tgt : Int)) (ha : a < 2 ^ 31) (hb : b < 2 ^ 31)
    (kt : b < a → W p l e R s m args below meth c H locs cells slots Q (F0 m tgt ls rest)) (kf : a ≤ b → W p l e R s m args below meth c H locs cells slots Q (F0 m (pc + 3) ls rest)) : W p l e R s m args below meth c H locs cells slots Q (F0 m pc ls (.int (nI b) :: .int (nI a) :: rest)) :=
  lv_icmp_gt E.1 E.2.1 hdg ht (fun h => kt ((nI_ltI hb ha).mp h)) (fun h => kf (Nat.not_lt.mp fun q => h ((nI_ltI hb ha).mpr q)))
theorem n_icmp_le (E : CallFix p m c cc nL s args tG own) {a b : Nat} {off : Int} {tgt : Nat} (hdg : decode cc pc = .ok (.if_icmp .le off, 3)) (ht : (pc : Int) + off = (tgt : Int)) (ha : a < 2 ^ 31) (hb : b < 2 ^ 31)
    (kt : a ≤ b → W p l e R s m args below meth c H locs cells slots Q (F0 m tgt ls rest)) (kf : b < a → W p l e R s m args below meth c H locs cells slots Q (F0 m (pc + 3) ls rest)) : W p l e R s m args below meth c H locs cells slots Q (F0 m pc ls (.int (nI b) :: .int (nI a) :: rest)) :=
  lv_icmp_le E.1 E.2.1 hdg ht (fun h => kt ((nI_leI ha hb).mp h)) (fun h => kf (Nat.not_le.mp fun q => h ((nI_leI ha hb).mpr q)))
theorem n_icmp_eq (E : CallFix p m c cc nL s args tG own) {a b : Nat} {off : Int} {tgt : Nat} (hdg : decode cc pc = .ok (.if_icmp .eq off, 3)) (ht : (pc : Int) + off = (tgt : Int)) (ha : a < 2 ^ 31) (hb : b < 2 ^ 31)
    (kt : a = b → W p l e R s m args below meth c H locs cells slots Q (F0 m tgt ls rest)) (kf : ¬ a = b → W p l e R s m args below meth c H locs cells slots Q (F0 m (pc + 3) ls rest)) : W p l e R s m args below meth c H locs cells slots Q (F0 m pc ls (.int (nI b) :: .int (nI a) :: rest)) :=
  lv_icmp_eq E.1 E.2.1 hdg ht (fun h => kt ((nI_eq ha hb).mp h)) (fun h => kf (fun q => h ((nI_eq ha hb).mpr q)))
theorem n_icmp_ne (E : CallFix p m c cc nL s args tG own) {a b : Nat} {off : Int} {tgt : Nat} (hdg : decode cc pc = .ok (.if_icmp .ne off, 3)) (ht : (pc : Int) + off = (tgt : Int)) (ha : a < 2 ^ 31) (hb : b < 2 ^ 31)
    (kt : ¬ a = b → W p l e R s m args below meth c H locs cells slots Q (F0 m tgt ls rest)) (kf : a = b → W p l e R s m args below meth c H locs cells slots Q (F0 m (pc + 3) ls rest)) : W p l e R s m args below meth c H locs cells slots Q (F0 m pc ls (.int (nI b) :: .int (nI a) :: rest)) :=
  lv_icmp_ne E.1 E.2.1 hdg ht (fun h => kt (fun q => h ((nI_eq ha hb).mpr q))) (fun h => kf ((nI_eq ha hb).mp h))
/-- branches on a number -/
theorem n_if_eq (E : CallFix p m c cc nL s args tG own) {a : Nat} {off : Int} {tgt : Nat} (hdg : decode cc pc = .ok (.ifCond .eq off, 3)) (ht : (pc : Int) + off = (tgt : Int)) (ha : a < 2 ^ 31)
    (kt : a = 0 → W p l e R s m args below meth c H locs cells slots Q (F0 m tgt ls rest)) (kf : ¬ a = 0 → W p l e R s m args below meth c H locs cells slots Q (F0 m (pc + 3) ls rest)) : W p l e R s m args below meth c H locs cells slots Q (F0 m pc ls (.int (nI a) :: rest)) :=
  lv_if_eq E.1 E.2.1 hdg ht (fun h => kt ((nI_eq ha (p31 (by omega : 0 ≤ 1000000))).mp (h.trans nI_0.symm))) (fun h => kf (fun q => h (by rw [q]; exact nI_0)))
theorem n_if_ne (E : CallFix p m c cc nL s args tG own) {a : Nat} {off : Int} {tgt : Nat} (hdg : decode cc pc = .ok (.ifCond .ne off, 3)) (ht : (pc : Int) + off = (tgt : Int)) (ha : a < 2 ^ 31)
    (kt : ¬ a = 0 → W p l e R s m args below meth c H locs cells slots Q (F0 m tgt ls rest)) (kf : a = 0 → W p l e R s m args below meth c H locs cells slots Q (F0 m (pc + 3) ls rest)) : W p l e R s m args below meth c H locs cells slots Q (F0 m pc ls (.int (nI a) :: rest)) :=
  lv_if_ne E.1 E.2.1 hdg ht (fun h => kt (fun q => h (by rw [q]; exact nI_0))) (fun h => kf ((nI_eq ha (p31 (by omega : 0 ≤ 1000000))).mp (h.trans nI_0.symm)))
theorem n_if_le (E : CallFix p m c cc nL s args tG own) {a : Nat} {off : Int} {tgt : Nat} (hdg : decode cc pc = .ok (.ifCond .le off, 3)) (ht : (pc : Int) + off = (tgt : Int)) (ha : a < 2 ^ 31)
    (kt : a = 0 → W p l e R s m args below meth c H locs cells slots Q (F0 m tgt ls rest)) (kf : 0 < a → W p l e R s m args below meth c H locs cells slots Q (F0 m (pc + 3) ls rest)) : W p l e R s m args below meth c H locs cells slots Q (F0 m pc ls (.int (nI a) :: rest)) :=
  lv_if_le E.1 E.2.1 hdg ht (fun h => kt (Nat.eq_zero_of_not_pos fun q => nI_nle q ha h)) (fun h => kf (Nat.pos_of_ne_zero fun q => h (by rw [q, nI_0]; decide)))
theorem n_if_ge (E : CallFix p m c cc nL s args tG own) {a : Nat} {off : Int} {tgt : Nat} (hdg : decode cc pc = .ok (.ifCond .ge off, 3)) (ht : (pc : Int) + off = (tgt : Int)) (ha : a < 2 ^ 31)
    (kt : W p l e R s m args below meth c H locs cells slots Q (F0 m tgt ls rest)) : W p l e R s m args below meth c H locs cells slots Q (F0 m pc ls (.int (nI a) :: rest)) :=
  lv_if_ge E.1 E.2.1 hdg ht (fun _ => kt) (fun h => absurd (nI_pos' ha) h)
theorem n_if_lt (E : CallFix p m c cc nL s args tG own) {a : Nat} {off : Int} {tgt : Nat} (hdg : decode cc pc = .ok (.ifCond .lt off, 3)) (ht : (pc : Int) + off = (tgt : Int)) (ha : a < 2 ^ 31)
    (kf : W p l e R s m args below meth c H locs cells slots Q (F0 m (pc + 3) ls rest)) : W p l e R s m args below meth c H locs cells slots Q (F0 m pc ls (.int (nI a) :: rest)) :=
  lv_if_lt E.1 E.2.1 hdg ht (fun h => absurd h (nI_pos ha)) (fun _ => kf)
/-- branches on a truth value -/
theorem b_if_eq (E : CallFix p m c cc nL s args tG own) {b : Bool} {off : Int} {tgt : Nat} (hdg : decode cc pc = .ok (.ifCond .eq off, 3)) (ht : (pc : Int) + off = (tgt : Int))
    (kt : b = false → W p l e R s m args below meth c H locs cells slots Q (F0 m tgt ls rest)) (kf : b = true → W p l e R s m args below meth c H locs cells slots Q (F0 m (pc + 3) ls rest)) : W p l e R s m args below meth c H locs cells slots Q (F0 m pc ls (.int (bI b) :: rest)) :=
  lv_if_eq E.1 E.2.1 hdg ht (fun h => kt (by cases b; rfl; exact absurd h (by decide))) (fun h => kf (by cases b; exact absurd rfl h; rfl))
theorem b_if_ne (E : CallFix p m c cc nL s args tG own) {b : Bool} {off : Int} {tgt : Nat} (hdg : decode cc pc = .ok (.ifCond .ne off, 3)) (ht : (pc : Int) + off = (tgt : Int))
    (kt : b = true → W p l e R s m args below meth c H locs cells slots Q (F0 m tgt ls rest)) (kf : b = false → W p l e R s m args below meth c H locs cells slots Q (F0 m (pc + 3) ls rest)) : W p l e R s m args below meth c H locs cells slots Q (F0 m pc ls (.int (bI b) :: rest)) :=
  lv_if_ne E.1 E.2.1 hdg ht (fun h => kt (by cases b; exact absurd rfl h; rfl)) (fun h => kf (by cases b; rfl; exact absurd h (by decide)))
/-- branches on two longs: the compare and the jump behind it -/
theorem l_if_lt (E : CallFix p m c cc nL s args tG own) {x y : Int64} {off : Int} {tgt : Nat} (hd1 : decode cc pc = .ok (.lcmp, 1)) (hd2 : decode cc (pc + 1) = .ok (.ifCond .lt off, 3)) (ht : ((pc + 1 : Nat) : Int) + off = (tgt : Int))
    (kt : x < y → W p l e R s m args below meth c H locs cells slots Q (F0 m tgt ls rest)) (kf : ¬ x < y → W p l e R s m args below meth c H locs cells slots Q (F0 m (pc + 1 + 3) ls rest)) : W p l e R s m args below meth c H locs cells slots Q (F0 m pc ls (.long y :: .long x :: rest)) :=
  W.lcmp E.1 E.2.1 hd1 (lv_if_lt E.1 E.2.1 hd2 ht (fun h => kt ((lg_cmp_lt x y).mp h)) (fun h => kf fun q => h ((lg_cmp_lt x y).mpr q)))
theorem l_if_ge (E : CallFix p m c cc nL s args tG own) {x y : Int64} {off : Int} {tgt : Nat} (hd1 : decode cc pc = .ok (.lcmp, 1)) (hd2 : decode cc (pc + 1) = .ok (.ifCond .ge off, 3)) (ht : ((pc + 1 : Nat) : Int) + off = (tgt : Int))
    (kt : ¬ x < y → W p l e R s m args below meth c H locs cells slots Q (F0 m tgt ls rest)) (kf : x < y → W p l e R s m args below meth c H locs cells slots Q (F0 m (pc + 1 + 3) ls rest)) : W p l e R s m args below meth c H locs cells slots Q (F0 m pc ls (.long y :: .long x :: rest)) :=
  W.lcmp E.1 E.2.1 hd1 (lv_if_ge E.1 E.2.1 hd2 ht (fun h => kt (Int64.not_lt.mpr ((lg_cmp_ge x y).mp h))) (fun h => kf (Classical.byContradiction fun q => h ((lg_cmp_ge x y).mpr (Int64.not_lt.mp q)))))
theorem l_if_gt (E : CallFix p m c cc nL s args tG own) {x y : Int64} {off : Int} {tgt : Nat} (hd1 : decode cc pc = .ok (.lcmp, 1)) (hd2 : decode cc (pc + 1) = .ok (.ifCond .gt off, 3)) (ht : ((pc + 1 : Nat) : Int) + off = (tgt : Int))
    (kt : y < x → W p l e R s m args below meth c H locs cells slots Q (F0 m tgt ls rest)) (kf : ¬ y < x → W p l e R s m args below meth c H locs cells slots Q (F0 m (pc + 1 + 3) ls rest)) : W p l e R s m args below meth c H locs cells slots Q (F0 m pc ls (.long y :: .long x :: rest)) :=
  W.lcmp E.1 E.2.1 hd1 (lv_if_gt E.1 E.2.1 hd2 ht (fun h => kt ((lg_cmp_gt x y).mp h)) (fun h => kf fun q => h ((lg_cmp_gt x y).mpr q)))
theorem l_if_le (E : CallFix p m c cc nL s args tG own) {x y : Int64} {off : Int} {tgt : Nat} (hd1 : decode cc pc = .ok (.lcmp, 1)) (hd2 : decode cc (pc + 1) = .ok (.ifCond .le off, 3)) (ht : ((pc + 1 : Nat) : Int) + off = (tgt : Int))
    (kt : ¬ y < x → W p l e R s m args below meth c H locs cells slots Q (F0 m tgt ls rest)) (kf : y < x → W p l e R s m args below meth c H locs cells slots Q (F0 m (pc + 1 + 3) ls rest)) : W p l e R s m args below meth c H locs cells slots Q (F0 m pc ls (.long y :: .long x :: rest)) :=
  W.lcmp E.1 E.2.1 hd1 (lv_if_le E.1 E.2.1 hd2 ht (fun h => kt (Int64.not_lt.mpr ((lg_cmp_le x y).mp h))) (fun h => kf (Classical.byContradiction fun q => h ((lg_cmp_le x y).mpr (Int64.not_lt.mp q)))))
theorem l_if_eq (E : CallFix p m c cc nL s args tG own) {x y : Int64} {off : Int} {tgt : Nat} (hd1 : decode cc pc = .ok (.lcmp, 1)) (hd2 : decode cc (pc + 1) = .ok (.ifCond .eq off, 3)) (ht : ((pc + 1 : Nat) : Int) + off = (tgt : Int))
    (kt : x = y → W p l e R s m args below meth c H locs cells slots Q (F0 m tgt ls rest)) (kf : ¬ x = y → W p l e R s m args below meth c H locs cells slots Q (F0 m (pc + 1 + 3) ls rest)) : W p l e R s m args below meth c H locs cells slots Q (F0 m pc ls (.long y :: .long x :: rest)) :=
  W.lcmp E.1 E.2.1 hd1 (lv_if_eq E.1 E.2.1 hd2 ht (fun h => kt ((lg_cmp_eq x y).mp h)) (fun h => kf fun q => h ((lg_cmp_eq x y).mpr q)))
theorem l_if_ne (E : CallFix p m c cc nL s args tG own) {x y : Int64} {off : Int} {tgt : Nat} (hd1 : decode cc pc = .ok (.lcmp, 1)) (hd2 : decode cc (pc + 1) = .ok (.ifCond .ne off, 3)) (ht : ((pc + 1 : Nat) : Int) + off = (tgt : Int))
    (kt : ¬ x = y → W p l e R s m args below meth c H locs cells slots Q (F0 m tgt ls rest)) (kf : x = y → W p l e R s m args below meth c H locs cells slots Q (F0 m (pc + 1 + 3) ls rest)) : W p l e R s m args below meth c H locs cells slots Q (F0 m pc ls (.long y :: .long x :: rest)) :=
  W.lcmp E.1 E.2.1 hd1 (lv_if_ne E.1 E.2.1 hd2 ht (fun h => kt fun q => h ((lg_cmp_eq x y).mpr q)) (fun h => kf ((lg_cmp_eq x y).mp h)))
/-- loops: the heap stays (one, two, three things that change) -/
theorem w_lp1 {A1 : Type} (I : A1 → Prop) (μ : A1 → Nat) (lv : A1 → List (Nat × Value)) (a1 : A1) (h0 : I a1) (hl : lv_has ls nL (lv a1))
    (step : ∀ (a1 : A1) (ls : Array Slot), I a1 → lv_has ls nL (lv a1) → (∀ (b1 : A1) (ls' : Array Slot), I b1 → μ b1 < μ a1 → lv_has ls' nL (lv b1) → W p l e R s m args below meth c H locs cells slots Q (F0 m pc ls' rest)) → W p l e R s m args below meth c H locs cells slots Q (F0 m pc ls rest)) : W p l e R s m args below meth c H locs cells slots Q (F0 m pc ls rest) := by
  have key : ∀ (n : Nat) (a1 : A1) (ls : Array Slot), μ a1 < n → I a1 → lv_has ls nL (lv a1) → W p l e R s m args below meth c H locs cells slots Q (F0 m pc ls rest) := by
    intro n
    induction n with
    | zero => intro a1 ls h; omega
    | succ n ih => intro a1 ls h hI hl; exact step a1 ls hI hl (fun b1 ls' hb hm hl' => ih b1 ls' (by omega) hb hl')
  exact key _ a1 ls (Nat.lt_succ_self _) h0 hl
theorem w_lp2 {A1 A2 : Type} (I : A1 → A2 → Prop) (μ : A1 → A2 → Nat) (lv : A1 → A2 → List (Nat × Value)) (a1 : A1) (a2 : A2) (h0 : I a1 a2) (hl : lv_has ls nL (lv a1 a2))
    (step : ∀ (a1 : A1) (a2 : A2) (ls : Array Slot), I a1 a2 → lv_has ls nL (lv a1 a2) → (∀ (b1 : A1) (b2 : A2) (ls' : Array Slot), I b1 b2 → μ b1 b2 < μ a1 a2 → lv_has ls' nL (lv b1 b2) → W p l e R s m args below meth c H locs cells slots Q (F0 m pc ls' rest)) → W p l e R s m args below meth c H locs cells slots Q (F0 m pc ls rest)) : W p l e R s m args below meth c H locs cells slots Q (F0 m pc ls rest) :=
  w_lp1 (A1 := A1 × A2) (fun x => I x.1 x.2) (fun x => μ x.1 x.2) (fun x => lv x.1 x.2) (a1, a2) h0 hl (fun x ls hI hl ih => step x.1 x.2 ls hI hl (fun b1 b2 ls' hb hm hl' => ih (b1, b2) ls' hb hm hl'))
theorem w_lp3 {A1 A2 A3 : Type} (I : A1 → A2 → A3 → Prop) (μ : A1 → A2 → A3 → Nat) (lv : A1 → A2 → A3 → List (Nat × Value)) (a1 : A1) (a2 : A2) (a3 : A3) (h0 : I a1 a2 a3) (hl : lv_has ls nL (lv a1 a2 a3))
    (step : ∀ (a1 : A1) (a2 : A2) (a3 : A3) (ls : Array Slot), I a1 a2 a3 → lv_has ls nL (lv a1 a2 a3) → (∀ (b1 : A1) (b2 : A2) (b3 : A3) (ls' : Array Slot), I b1 b2 b3 → μ b1 b2 b3 < μ a1 a2 a3 → lv_has ls' nL (lv b1 b2 b3) → W p l e R s m args below meth c H locs cells slots Q (F0 m pc ls' rest)) → W p l e R s m args below meth c H locs cells slots Q (F0 m pc ls rest)) : W p l e R s m args below meth c H locs cells slots Q (F0 m pc ls rest) :=
  w_lp1 (A1 := A1 × A2 × A3) (fun x => I x.1 x.2.1 x.2.2) (fun x => μ x.1 x.2.1 x.2.2) (fun x => lv x.1 x.2.1 x.2.2) (a1, a2, a3) h0 hl (fun x ls hI hl ih => step x.1 x.2.1 x.2.2 ls hI hl (fun b1 b2 b3 ls' hb hm hl' => ih (b1, b2, b3) ls' hb hm hl'))
/-- loops that write -/
theorem w_lq1 {A1 : Type} (I : A1 → Prop) (μ : A1 → Nat) (lv : A1 → List (Nat × Value)) (B : A1 → Heap → List Loc → Prop) (a1 : A1) (h0 : I a1) (hB : B a1 H locs) (hl : lv_has ls nL (lv a1))
    (step : ∀ (a1 : A1) (ls : Array Slot) (H : Heap) (locs : List Loc), I a1 → B a1 H locs → lv_has ls nL (lv a1) → (∀ (b1 : A1) (ls' : Array Slot) (H' : Heap) (locs' : List Loc), I b1 → μ b1 < μ a1 → B b1 H' locs' → lv_has ls' nL (lv b1) → W p l e R s m args below meth c H' locs' cells slots Q (F0 m pc ls' rest)) → W p l e R s m args below meth c H locs cells slots Q (F0 m pc ls rest)) : W p l e R s m args below meth c H locs cells slots Q (F0 m pc ls rest) := by
  have key : ∀ (n : Nat) (a1 : A1) (ls : Array Slot) (H : Heap) (locs : List Loc), μ a1 < n → I a1 → B a1 H locs → lv_has ls nL (lv a1) → W p l e R s m args below meth c H locs cells slots Q (F0 m pc ls rest) := by
    intro n
    induction n with
    | zero => intro a1 ls H locs h; omega
    | succ n ih => intro a1 ls H locs h hI hB hl; exact step a1 ls H locs hI hB hl (fun b1 ls' H' locs' hb hm hB' hl' => ih b1 ls' H' locs' (by omega) hb hB' hl')
  exact key _ a1 ls H locs (Nat.lt_succ_self _) h0 hB hl
theorem w_lq2 {A1 A2 : Type} (I : A1 → A2 → Prop) (μ : A1 → A2 → Nat) (lv : A1 → A2 → List (Nat × Value)) (B : A1 → A2 → Heap → List Loc → Prop) (a1 : A1) (a2 : A2) (h0 : I a1 a2) (hB : B a1 a2 H locs) (hl : lv_has ls nL (lv a1 a2))
    (step : ∀ (a1 : A1) (a2 : A2) (ls : Array Slot) (H : Heap) (locs : List Loc), I a1 a2 → B a1 a2 H locs → lv_has ls nL (lv a1 a2) → (∀ (b1 : A1) (b2 : A2) (ls' : Array Slot) (H' : Heap) (locs' : List Loc), I b1 b2 → μ b1 b2 < μ a1 a2 → B b1 b2 H' locs' → lv_has ls' nL (lv b1 b2) → W p l e R s m args below meth c H' locs' cells slots Q (F0 m pc ls' rest)) → W p l e R s m args below meth c H locs cells slots Q (F0 m pc ls rest)) : W p l e R s m args below meth c H locs cells slots Q (F0 m pc ls rest) :=
  w_lq1 (A1 := A1 × A2) (fun x => I x.1 x.2) (fun x => μ x.1 x.2) (fun x => lv x.1 x.2) (fun x => B x.1 x.2) (a1, a2) h0 hB hl (fun x ls H locs hI hB hl ih => step x.1 x.2 ls H locs hI hB hl (fun b1 b2 ls' H' locs' hb hm hB' hl' => ih (b1, b2) ls' H' locs' hb hm hB' hl'))
theorem w_lq3 {A1 A2 A3 : Type} (I : A1 → A2 → A3 → Prop) (μ : A1 → A2 → A3 → Nat) (lv : A1 → A2 → A3 → List (Nat × Value)) (B : A1 → A2 → A3 → Heap → List Loc → Prop) (a1 : A1) (a2 : A2) (a3 : A3) (h0 : I a1 a2 a3) (hB : B a1 a2 a3 H locs) (hl : lv_has ls nL (lv a1 a2 a3))
    (step : ∀ (a1 : A1) (a2 : A2) (a3 : A3) (ls : Array Slot) (H : Heap) (locs : List Loc), I a1 a2 a3 → B a1 a2 a3 H locs → lv_has ls nL (lv a1 a2 a3) → (∀ (b1 : A1) (b2 : A2) (b3 : A3) (ls' : Array Slot) (H' : Heap) (locs' : List Loc), I b1 b2 b3 → μ b1 b2 b3 < μ a1 a2 a3 → B b1 b2 b3 H' locs' → lv_has ls' nL (lv b1 b2 b3) → W p l e R s m args below meth c H' locs' cells slots Q (F0 m pc ls' rest)) → W p l e R s m args below meth c H locs cells slots Q (F0 m pc ls rest)) : W p l e R s m args below meth c H locs cells slots Q (F0 m pc ls rest) :=
  w_lq1 (A1 := A1 × A2 × A3) (fun x => I x.1 x.2.1 x.2.2) (fun x => μ x.1 x.2.1 x.2.2) (fun x => lv x.1 x.2.1 x.2.2) (fun x => B x.1 x.2.1 x.2.2) (a1, a2, a3) h0 hB hl (fun x ls H locs hI hB hl ih => step x.1 x.2.1 x.2.2 ls H locs hI hB hl (fun b1 b2 b3 ls' H' locs' hb hm hB' hl' => ih (b1, b2, b3) ls' H' locs' hb hm hB' hl'))
end CHB2
section CHB3
variable {p : Program} {l : Launch} {e : Env} {R : Room} {s : State} {m : MethodId} {args : Array Value} {below : List Frame} {meth : Method} {c : Code} {H : Heap} {locs : List Loc} {cells slots : Nat} {Q : State → Prop}
variable {cc : ByteArray} {pc : Nat} {ls : Array Slot} {rest : List Value} {nL : Nat} {own : String}
variable {D : va_G} {cl : List vw_C} {A : Nat → Prop} {a : Nat} {tys : List (ClassId × FieldType)} {ws : va_W} {H0 : Heap}
/-- fields -/
theorem n_get (E : CallFix p m c cc nL s args tG own) {C : String} {T : u_T} {N ci index : Nat} (hin : ∀ w ∈ u_ws C T N, w ∈ tG) (hK : va_K D cl tys s) (hP : va_P D cl ws H) (q0 : Nat) {fs : List Value} (he : ws[q0]? = some (a, .inr (ci, fs))) (hc : cl[ci]? = some (C, T, N)) (k : Nat) (hk : k < N) (hlink : Cond.fieldLink own index C (T k).2.1 (T k).2.2.1 ∈ tG) (hdecl : (T k).1 = C) {v : Value} (hv : fs[k]? = some v) (hdg : decode cc pc = .ok (.getfield index, 3))
    (kk : W p l e R s m args below meth c H locs cells slots Q (F0 m (pc + 3) ls (v :: rest))) : W p l e R s m args below meth c H locs cells slots Q (F0 m pc ls (.ref a :: rest)) :=
  va_get E.1 E.2.1 E.2.2.2.2 hin E.2.2.2.1 hK hP q0 he hc k hk (E.2.2.2.2 _ hlink) (fun x h => by rw [hdecl] at h; exact h) hv hdg kk
theorem n_put (E : CallFix p m c cc nL s args tG own) {C : String} {T : u_T} {N ci index : Nat} (hin : ∀ w ∈ u_ws C T N, w ∈ tG) (ty0 : Nat → FieldType) (hty : ∀ k, k < N → parseFieldDescriptor (T k).2.2.1 = some (ty0 k)) (hnm : ∀ a, a < N → ∀ b, b < N → a ≠ b → (T a).2.1 ≠ (T b).2.1) (hK : va_K D cl tys s) (hP : va_P D cl ws H) (hD : va_D A ws) (hS : va_S A H0 H locs) (q0 : Nat) {fs : List Value} (he : ws[q0]? = some (a, .inr (ci, fs))) (hc : cl[ci]? = some (C, T, N)) (k : Nat) (hk : k < N) (hlink : Cond.fieldLink own index C (T k).2.1 (T k).2.2.1 ∈ tG) (hdecl : (T k).1 = C) (hfin : (T k).2.2.2 = false) (hd : parseFieldDescriptor (T k).2.2.1 = some .int) {x : Int32} (hl : k < fs.length) (hdg : decode cc pc = .ok (.putfield index, 3))
    (kk : ∀ (H1 : Heap) (locs1 : List Loc), va_P D cl (ws.set q0 (a, .inr (ci, fs.set k (.int x)))) H1 → va_S A H0 H1 locs1 → W p l e R s m args below meth c H1 locs1 cells slots Q (F0 m (pc + 3) ls rest)) : W p l e R s m args below meth c H locs cells slots Q (F0 m pc ls (.int x :: .ref a :: rest)) :=
  va_put E.1 E.2.1 E.2.2.2.2 hin ty0 hty hnm E.2.2.2.1 hK hP hD hS q0 he hc k hk (E.2.2.2.2 _ hlink) (fun x h => by rw [hdecl] at h; exact h) hfin hd (vp_nar_int x) rfl hl hdg (fun H1 locs1 h1 _ h3 => kk H1 locs1 h1 h3)
/-- arrays -/
theorem n_iald (E : CallFix p m c cc nL s args tG own) (hK : va_K D cl tys s) (hP : va_P D cl ws H) (q0 t0 : Nat) {cA : ClassId} {n : Nat} {f : Nat → Nat} (ha : ws[q0]? = some (a, .inl (cA, n, .inl (aN f)))) (ht : tys[t0]? = some (cA, .int)) {i : Nat} (hn : n < 2 ^ 31) (hi : i < n) (hdg : decode cc pc = .ok (.iaload, 1))
    (kk : W p l e R s m args below meth c H locs cells slots Q (F0 m (pc + 1) ls (.int (nI (f i)) :: rest))) : W p l e R s m args below meth c H locs cells slots Q (F0 m pc ls (.int (nI i) :: .ref a :: rest)) :=
  va_iald E.1 E.2.1 hK hP q0 t0 ha ht (vp_in_nI hi hn) hdg (tpi (by show nI (f _) = _; rw [nI_clamp (Nat.lt_trans hi hn)]) kk)
theorem n_lald (E : CallFix p m c cc nL s args tG own) (hK : va_K D cl tys s) (hP : va_P D cl ws H) (q0 t0 : Nat) {cA : ClassId} {n : Nat} {f : Nat → Int64} (ha : ws[q0]? = some (a, .inl (cA, n, .inr (.inl f)))) (ht : tys[t0]? = some (cA, .long)) {i : Nat} (hn : n < 2 ^ 31) (hi : i < n) (hdg : decode cc pc = .ok (.laload, 1))
    (kk : W p l e R s m args below meth c H locs cells slots Q (F0 m (pc + 1) ls (.long (f i) :: rest))) : W p l e R s m args below meth c H locs cells slots Q (F0 m pc ls (.int (nI i) :: .ref a :: rest)) :=
  va_lald E.1 E.2.1 hK hP q0 t0 ha ht (vp_in_nI hi hn) hdg (tpl (by rw [nI_clamp (Nat.lt_trans hi hn)]) kk)
/-- a cell of the table of the hall -/
theorem n_cald (E : CallFix p m c cc nL s args tG own) (hK : va_K D cl tys s) (hP : va_P D cl ws H) (q0 t0 : Nat) {cA : ClassId} {T : Nat → Nat → Int64} (ha : ws[q0]? = some (a, .inl (cA, 512, .inr (.inl (aT T))))) (ht : tys[t0]? = some (cA, .long)) {i : Nat} (r c0 : Nat) (hi : i = c0 * 128 + r) (hr : r < 128) (hc : c0 < 4) (hdg : decode cc pc = .ok (.laload, 1))
    (kk : W p l e R s m args below meth c H locs cells slots Q (F0 m (pc + 1) ls (.long (T r c0) :: rest))) : W p l e R s m args below meth c H locs cells slots Q (F0 m pc ls (.int (nI i) :: .ref a :: rest)) :=
  n_lald E hK hP q0 t0 ha ht (by omega) (by omega) hdg (tpl (aT_at T hi hr) kk)
/-- a cell of the reference's table -/
theorem n_rald (E : CallFix p m c cc nL s args tG own) (hK : va_K D cl tys s) (hP : va_P D cl ws H) (q0 t0 : Nat) {cA : ClassId} {T : Nat → Nat → Int64} (ha : ws[q0]? = some (a, .inl (cA, 512, .inr (.inl (aR T))))) (ht : tys[t0]? = some (cA, .long)) {i : Nat} (r c0 : Nat) (hi : i = 4 * r + c0) (hr : r < 128) (hc : c0 < 4) (hdg : decode cc pc = .ok (.laload, 1))
    (kk : W p l e R s m args below meth c H locs cells slots Q (F0 m (pc + 1) ls (.long (T r c0) :: rest))) : W p l e R s m args below meth c H locs cells slots Q (F0 m pc ls (.int (nI i) :: .ref a :: rest)) :=
  n_lald E hK hP q0 t0 ha ht (by omega) (by omega) hdg (tpl (aR_at T hi hc) kk)
theorem n_iast (E : CallFix p m c cc nL s args tG own) (hK : va_K D cl tys s) (hP : va_P D cl ws H) (hD : va_D A ws) (hS : va_S A H0 H locs) (q0 t0 : Nat) {cA : ClassId} {n : Nat} {f : Nat → Nat} (ha : ws[q0]? = some (a, .inl (cA, n, .inl (aN f)))) (ht : tys[t0]? = some (cA, .int)) {i x : Nat} (hn : n < 2 ^ 31) (hi : i < n) (hdg : decode cc pc = .ok (.iastore, 1))
    (kk : ∀ (H1 : Heap) (locs1 : List Loc), va_P D cl (ws.set q0 (a, .inl (cA, n, .inl (aN (fS f i x))))) H1 → va_S A H0 H1 locs1 → W p l e R s m args below meth c H1 locs1 cells slots Q (F0 m (pc + 1) ls rest)) : W p l e R s m args below meth c H locs cells slots Q (F0 m pc ls (.int (nI x) :: .int (nI i) :: .ref a :: rest)) :=
  va_iast E.1 E.2.1 hK hP hD hS q0 t0 ha ht (vp_in_nI hi hn) hdg (fun H1 locs1 h1 _ h3 => kk H1 locs1 (by rw [nI_clamp (Nat.lt_trans hi hn), aN_set] at h1; exact h1) h3)
theorem n_last (E : CallFix p m c cc nL s args tG own) (hK : va_K D cl tys s) (hP : va_P D cl ws H) (hD : va_D A ws) (hS : va_S A H0 H locs) (q0 t0 : Nat) {cA : ClassId} {n : Nat} {f : Nat → Int64} (ha : ws[q0]? = some (a, .inl (cA, n, .inr (.inl f)))) (ht : tys[t0]? = some (cA, .long)) {i : Nat} {x : Int64} (hn : n < 2 ^ 31) (hi : i < n) (hdg : decode cc pc = .ok (.lastore, 1))
    (kk : ∀ (H1 : Heap) (locs1 : List Loc), va_P D cl (ws.set q0 (a, .inl (cA, n, .inr (.inl (fS f i x))))) H1 → va_S A H0 H1 locs1 → W p l e R s m args below meth c H1 locs1 cells slots Q (F0 m (pc + 1) ls rest)) : W p l e R s m args below meth c H locs cells slots Q (F0 m pc ls (.long x :: .int (nI i) :: .ref a :: rest)) :=
  va_last E.1 E.2.1 hK hP hD hS q0 t0 ha ht (vp_in_nI hi hn) hdg (fun H1 locs1 h1 _ h3 => kk H1 locs1 (by rw [nI_clamp (Nat.lt_trans hi hn), aL_set] at h1; exact h1) h3)
theorem n_cast (E : CallFix p m c cc nL s args tG own) (hK : va_K D cl tys s) (hP : va_P D cl ws H) (hD : va_D A ws) (hS : va_S A H0 H locs) (q0 t0 : Nat) {cA : ClassId} {T : Nat → Nat → Int64} (ha : ws[q0]? = some (a, .inl (cA, 512, .inr (.inl (aT T))))) (ht : tys[t0]? = some (cA, .long)) {i : Nat} {x : Int64} (r c0 : Nat) (hi : i = c0 * 128 + r) (hr : r < 128) (hc : c0 < 4) (hdg : decode cc pc = .ok (.lastore, 1))
    (kk : ∀ (H1 : Heap) (locs1 : List Loc), va_P D cl (ws.set q0 (a, .inl (cA, 512, .inr (.inl (aT (tS T r c0 x)))))) H1 → va_S A H0 H1 locs1 → W p l e R s m args below meth c H1 locs1 cells slots Q (F0 m (pc + 1) ls rest)) : W p l e R s m args below meth c H locs cells slots Q (F0 m pc ls (.long x :: .int (nI i) :: .ref a :: rest)) :=
  n_last E hK hP hD hS q0 t0 ha ht (by omega) (by omega) hdg (fun H1 locs1 h1 h3 => kk H1 locs1 (by rw [← aT_set T x hi hr]; exact h1) h3)
theorem n_rast (E : CallFix p m c cc nL s args tG own) (hK : va_K D cl tys s) (hP : va_P D cl ws H) (hD : va_D A ws) (hS : va_S A H0 H locs) (q0 t0 : Nat) {cA : ClassId} {T : Nat → Nat → Int64} (ha : ws[q0]? = some (a, .inl (cA, 512, .inr (.inl (aR T))))) (ht : tys[t0]? = some (cA, .long)) {i : Nat} {x : Int64} (r c0 : Nat) (hi : i = 4 * r + c0) (hr : r < 128) (hc : c0 < 4) (hdg : decode cc pc = .ok (.lastore, 1))
    (kk : ∀ (H1 : Heap) (locs1 : List Loc), va_P D cl (ws.set q0 (a, .inl (cA, 512, .inr (.inl (aR (tS T r c0 x)))))) H1 → va_S A H0 H1 locs1 → W p l e R s m args below meth c H1 locs1 cells slots Q (F0 m (pc + 1) ls rest)) : W p l e R s m args below meth c H locs cells slots Q (F0 m pc ls (.long x :: .int (nI i) :: .ref a :: rest)) :=
  n_last E hK hP hD hS q0 t0 ha ht (by omega) (by omega) hdg (fun H1 locs1 h1 h3 => kk H1 locs1 (by rw [← aR_set T x hi hc]; exact h1) h3)
end CHB3
section CHB4
variable {p : Program} {l : Launch} {e : Env} {R : Room} {s : State} {m : MethodId} {args : Array Value} {below : List Frame} {meth : Method} {c : Code} {H : Heap} {locs : List Loc} {cells slots : Nat} {Q : State → Prop}
variable {cc : ByteArray} {pc : Nat} {ls : Array Slot} {st rest : List Value} {nL : Nat} {own : String}
variable {D : va_G} {cl : List vw_C} {tys : List (ClassId × FieldType)} {w : va_W} {H0 : Heap}
variable {y : MethodName} {b : ByteArray} {n na idx : Nat} {r : Option FieldType} {rm : Room} {Pc : Array Value → State → Prop} {Qc : Array Value → State → Outcome → State → Prop} {mc ms : Nat} {free : Addr → Prop} {As : List Value}
/-- what the tables must say of a call -/
def kB (own : String) (idx : Nat) (y : MethodName) (b : ByteArray) (n : Nat) (r : Option FieldType) (na : Nat) : Prop := Cond.methodLink own idx y ∈ tG ∧ Cond.code y b n r ∈ tG ∧ Cond.initialized y.cls ∈ tG ∧ y.cls ≠ "java/lang/invoke/MethodHandle" ∧ y.cls ≠ "java/lang/invoke/VarHandle" ∧ (parseMethodDescriptor y.desc).map (fun d => d.parameters.length) = some na
def kS (own : String) (idx : Nat) (y : MethodName) (b : ByteArray) (n : Nat) (r : Option FieldType) (na : Nat) : Prop := kB own idx y b n r na ∧ Cond.static y ∈ tG
def kV (own : String) (idx : Nat) (y : MethodName) (b : ByteArray) (n : Nat) (r : Option FieldType) (na : Nat) : Prop := kB own idx y b n r na ∧ Cond.instanceMethod y ∈ tG ∧ Cond.selects y.cls y y ∈ tG
theorem k_cb (E : CallFix p m c cc nL s args tG own) (hk : kB own idx y b n r na) (hrc : rm.cells = mc) (hrs : rm.slots = ms) (hR : rm.frames + 1 ≤ R.frames ∧ 8 + (n + 11) + rm.locals ≤ R.locals) : CallB R s args own idx y b n r (wA y b n r) rm mc ms na :=
  callB_of na E.2.2.2.2 (gA hk.2.1) rfl hrc hrs (E.2.2.2.2 _ hk.2.2.1) (E.2.2.2.2 _ hk.1) ⟨hk.2.2.2.1, hk.2.2.2.2.1, hk.2.2.2.2.2⟩ hR
theorem pre0 {s : State} {H : Heap} {As : List Value} : PreS s H (va_Pc As (fun _ => True)) As := ⟨fun _ _ _ _ q => ⟨q.1, trivial⟩, fun _ _ _ => ⟨rfl, trivial⟩⟩
/-- a world as a premise -/
abbrev pW (D : va_G) (cl : List vw_C) (tys : List (ClassId × FieldType)) (w : va_W) : State → Prop := fun U => va_P D cl w U.heap ∧ va_K D cl tys U
theorem preW (hK : va_K D cl tys s) (hP : va_P D cl w H) (As : List Value) : PreS s H (va_Pc As (pW D cl tys w)) As :=
  ⟨fun a U g mk q => ⟨q.1, q.2.1, va_K.moved (u := U) (U := U.calling g mk a) (Vm.Alike.refl U.vm) q.2.2⟩, fun U hU hW => ⟨rfl, by rw [hU]; exact hP, va_K.moved hW.alike hK⟩⟩
theorem run_S (E : CallFix p m c cc nL s args tG own) (hM : Met l y (wA y b n r) rm Pc Qc mc ms free) (hk : kS own idx y b n r na) (hrc : rm.cells = mc) (hrs : rm.slots = ms) (hR : rm.frames + 1 ≤ R.frames ∧ 8 + (n + 11) + rm.locals ≤ R.locals) (hp : PreS s H Pc As) (hn : As.length = na) (hz : ls.size = nL) (hst : st = As.reverse ++ rest) (hW : (rest.map fun v => v.category).sum ≤ 8) (hdg : decode cc pc = .ok (.invokestatic idx, 3)) (hf : cells + mc ≤ R.cells ∧ slots + ms ≤ R.slots) :
    va_Run p l e R s m args below meth c H locs cells slots mc ms (F0 m pc ls st) rest (Qc As.toArray) free :=
  va_runS E hM ⟨k_cb E hk.1 hrc hrs hR, E.2.2.2.2 _ hk.2⟩ hp rfl hn hz hst (lv_room hW) hdg hf
theorem run_V (E : CallFix p m c cc nL s args tG own) (hM : Met l y (wA y b n r) rm Pc Qc mc ms free) (hk : kV own idx y b n r na) (hrc : rm.cells = mc) (hrs : rm.slots = ms) (hR : rm.frames + 1 ≤ R.frames ∧ 8 + (n + 11) + rm.locals ≤ R.locals) {a : Nat} (hp : PreV s H y.cls a Pc As) (hn : As.length = na) (hz : ls.size = nL) (hst : st = As.reverse ++ .ref a :: rest) (hW : (rest.map fun v => v.category).sum ≤ 8) (hdg : decode cc pc = .ok (.invokevirtual idx, 3)) (hf : cells + mc ≤ R.cells ∧ slots + ms ≤ R.slots) :
    va_Run p l e R s m args below meth c H locs cells slots mc ms (F0 m pc ls st) rest (Qc (Value.ref a :: As).toArray) free :=
  va_runV E hM ⟨k_cb E hk.1 hrc hrs hR, E.2.2.2.2 _ hk.2.1, E.2.2.2.2 _ hk.2.2⟩ hp rfl hn hz hst (lv_room hW) hdg hf
/-- static calls that read nothing and write nothing -/
theorem cS_i (E : CallFix p m c cc nL s args tG own) {v : Int32} (hM : Met l y (wA y b n r) rm (va_Pc As (fun _ => True)) (vp_Si (fun z => z = v)) 0 0 (fun _ => False)) (hk : kS own idx y b n r na) (hrc : rm.cells = 0) (hrs : rm.slots = 0) (hR : rm.frames + 1 ≤ R.frames ∧ 8 + (n + 11) + rm.locals ≤ R.locals) (hn : As.length = na) (hl : ls.size = nL) (hst : st = As.reverse ++ rest) (hW : (rest.map fun v => v.category).sum ≤ 8) (hdg : decode cc pc = .ok (.invokestatic idx, 3)) (hf : cells ≤ R.cells ∧ slots ≤ R.slots)
    (kk : W p l e R s m args below meth c H locs cells slots Q (F0 m (pc + 3) ls (.int v :: rest))) : W p l e R s m args below meth c H locs cells slots Q (F0 m pc ls st) :=
  vp_callSi (run_S E hM hk hrc hrs hR pre0 hn hl hst hW hdg hf).run (fun z hz => by rw [hz]; exact kk)
theorem cS_v (E : CallFix p m c cc nL s args tG own) (hM : Met l y (wA y b n r) rm (va_Pc As (fun _ => True)) (va_Sv (fun _ => True)) 0 0 (fun _ => False)) (hk : kS own idx y b n r na) (hrc : rm.cells = 0) (hrs : rm.slots = 0) (hR : rm.frames + 1 ≤ R.frames ∧ 8 + (n + 11) + rm.locals ≤ R.locals) (hn : As.length = na) (hl : ls.size = nL) (hst : st = As.reverse ++ rest) (hW : (rest.map fun v => v.category).sum ≤ 8) (hdg : decode cc pc = .ok (.invokestatic idx, 3)) (hf : cells ≤ R.cells ∧ slots ≤ R.slots)
    (kk : W p l e R s m args below meth c H locs cells slots Q (F0 m (pc + 3) ls rest)) : W p l e R s m args below meth c H locs cells slots Q (F0 m pc ls st) :=
  va_csv (run_S E hM hk hrc hrs hR pre0 hn hl hst hW hdg hf).run (fun _ => kk)
theorem cV_v (E : CallFix p m c cc nL s args tG own) {a : Nat} (hM : Met l y (wA y b n r) rm (va_Pc (.ref a :: As) (pW D cl tys w)) (va_Sv (fun _ => True)) 0 0 (fun _ => False)) (hk : kV own idx y b n r na) (hK : va_K D cl tys s) (hP : va_P D cl w H) (q0 : Nat) {ci N : Nat} {T : u_T} {fs : List Value} (he : w[q0]? = some (a, .inr (ci, fs))) (hc : cl[ci]? = some (y.cls, T, N)) (hrc : rm.cells = 0) (hrs : rm.slots = 0) (hR : rm.frames + 1 ≤ R.frames ∧ 8 + (n + 11) + rm.locals ≤ R.locals) (hn : As.length = na) (hl : ls.size = nL) (hst : st = As.reverse ++ .ref a :: rest) (hW : (rest.map fun v => v.category).sum ≤ 8) (hdg : decode cc pc = .ok (.invokevirtual idx, 3)) (hf : cells ≤ R.cells ∧ slots ≤ R.slots)
    (kk : W p l e R s m args below meth c H locs cells slots Q (F0 m (pc + 3) ls rest)) : W p l e R s m args below meth c H locs cells slots Q (F0 m pc ls st) :=
  va_csv (run_V E hM hk hrc hrs hR ⟨(preW hK hP (.ref a :: As)).1, va_recv hK hP hc he, (preW hK hP (.ref a :: As)).2⟩ hn hl hst hW hdg hf).run (fun _ => kk)
/-- calls on an object of a world that stays: int, long -/
theorem cV_i (E : CallFix p m c cc nL s args tG own) {v : Int32} {a : Nat} (hM : Met l y (wA y b n r) rm (va_Pc (.ref a :: As) (pW D cl tys w)) (vp_Si (fun z => z = v)) 0 0 (fun _ => False)) (hk : kV own idx y b n r na) (hK : va_K D cl tys s) (hP : va_P D cl w H) (q0 : Nat) {ci N : Nat} {T : u_T} {fs : List Value} (he : w[q0]? = some (a, .inr (ci, fs))) (hc : cl[ci]? = some (y.cls, T, N)) (hrc : rm.cells = 0) (hrs : rm.slots = 0) (hR : rm.frames + 1 ≤ R.frames ∧ 8 + (n + 11) + rm.locals ≤ R.locals) (hn : As.length = na) (hl : ls.size = nL) (hst : st = As.reverse ++ .ref a :: rest) (hW : (rest.map fun v => v.category).sum ≤ 8) (hdg : decode cc pc = .ok (.invokevirtual idx, 3)) (hf : cells ≤ R.cells ∧ slots ≤ R.slots)
    (kk : W p l e R s m args below meth c H locs cells slots Q (F0 m (pc + 3) ls (.int v :: rest))) : W p l e R s m args below meth c H locs cells slots Q (F0 m pc ls st) :=
  vp_callSi (run_V E hM hk hrc hrs hR ⟨(preW hK hP (.ref a :: As)).1, va_recv hK hP hc he, (preW hK hP (.ref a :: As)).2⟩ hn hl hst hW hdg hf).run (fun z hz => by rw [hz]; exact kk)
theorem cV_l (E : CallFix p m c cc nL s args tG own) {v : Int64} {a : Nat} (hM : Met l y (wA y b n r) rm (va_Pc (.ref a :: As) (pW D cl tys w)) (vp_Sl (fun z => z = v)) 0 0 (fun _ => False)) (hk : kV own idx y b n r na) (hK : va_K D cl tys s) (hP : va_P D cl w H) (q0 : Nat) {ci N : Nat} {T : u_T} {fs : List Value} (he : w[q0]? = some (a, .inr (ci, fs))) (hc : cl[ci]? = some (y.cls, T, N)) (hrc : rm.cells = 0) (hrs : rm.slots = 0) (hR : rm.frames + 1 ≤ R.frames ∧ 8 + (n + 11) + rm.locals ≤ R.locals) (hn : As.length = na) (hl : ls.size = nL) (hst : st = As.reverse ++ .ref a :: rest) (hW : (rest.map fun v => v.category).sum ≤ 8) (hdg : decode cc pc = .ok (.invokevirtual idx, 3)) (hf : cells ≤ R.cells ∧ slots ≤ R.slots)
    (kk : W p l e R s m args below meth c H locs cells slots Q (F0 m (pc + 3) ls (.long v :: rest))) : W p l e R s m args below meth c H locs cells slots Q (F0 m pc ls st) :=
  vp_callSl (run_V E hM hk hrc hrs hR ⟨(preW hK hP (.ref a :: As)).1, va_recv hK hP hc he, (preW hK hP (.ref a :: As)).2⟩ hn hl hst hW hdg hf).run (fun z hz => by rw [hz]; exact kk)
/-- calls on an object of a world that becomes another: void, int -/
abbrev qV {S : Type} (post : S → Prop) (D : va_G) (cl : List vw_C) (w : S → va_W) (A : Nat → Prop) : Array Value → State → Outcome → State → Prop := va_Qv post (fun u t => va_P D cl (w u) t.heap) A
abbrev qI {S : Type} (post : Int32 → S → Prop) (D : va_G) (cl : List vw_C) (w : S → va_W) (A : Nat → Prop) : Array Value → State → Outcome → State → Prop := va_Qi post (fun u t => va_P D cl (w u) t.heap) A
abbrev qL {S : Type} (post : Int64 → S → Prop) (D : va_G) (cl : List vw_C) (w : S → va_W) (A : Nat → Prop) : Array Value → State → Outcome → State → Prop := va_Ql post (fun u t => va_P D cl (w u) t.heap) A
theorem cV_wv (E : CallFix p m c cc nL s args tG own) {a : Nat} {S : Type} {post : S → Prop} {w1 : S → va_W} {A A0 : Nat → Prop} (hM : Met l y (wA y b n r) rm (va_Pc (.ref a :: As) (pW D cl tys w)) (qV post D cl w1 A) 0 0 A) (hk : kV own idx y b n r na) (hK : va_K D cl tys s) (hP : va_P D cl w H) (hS : va_S A0 H0 H locs) (hA : ∀ q, A q → A0 q) (q0 : Nat) {ci N : Nat} {T : u_T} {fs : List Value} (he : w[q0]? = some (a, .inr (ci, fs))) (hc : cl[ci]? = some (y.cls, T, N)) (hrc : rm.cells = 0) (hrs : rm.slots = 0) (hR : rm.frames + 1 ≤ R.frames ∧ 8 + (n + 11) + rm.locals ≤ R.locals) (hn : As.length = na) (hl : ls.size = nL) (hst : st = As.reverse ++ .ref a :: rest) (hW : (rest.map fun v => v.category).sum ≤ 8) (hdg : decode cc pc = .ok (.invokevirtual idx, 3)) (hf : cells ≤ R.cells ∧ slots ≤ R.slots)
    (kk : ∀ (u : S) (H1 : Heap) (locs1 : List Loc), post u → va_P D cl (w1 u) H1 → H.size ≤ H1.size → (∀ q : Nat, q < H.size → ¬ A q → H1[q]? = H[q]?) → va_S A0 H0 H1 locs1 → W p l e R s m args below meth c H1 locs1 cells slots Q (F0 m (pc + 3) ls rest)) : W p l e R s m args below meth c H locs cells slots Q (F0 m pc ls st) :=
  va_callv (run_V E hM hk hrc hrs hR ⟨(preW hK hP (.ref a :: As)).1, va_recv hK hP hc he, (preW hK hP (.ref a :: As)).2⟩ hn hl hst hW hdg hf) hS (fun q _ h => hA q h) hA (fun u t H1 locs1 ht _ hp hB hz hk1 hS1 => kk u H1 locs1 hp (by rw [← ht]; exact hB) hz hk1 hS1)
theorem cV_wi (E : CallFix p m c cc nL s args tG own) {a : Nat} {S : Type} {post : Int32 → S → Prop} {w1 : S → va_W} {A A0 : Nat → Prop} (hM : Met l y (wA y b n r) rm (va_Pc (.ref a :: As) (pW D cl tys w)) (qI post D cl w1 A) 0 0 A) (hk : kV own idx y b n r na) (hK : va_K D cl tys s) (hP : va_P D cl w H) (hS : va_S A0 H0 H locs) (hA : ∀ q, A q → A0 q) (q0 : Nat) {ci N : Nat} {T : u_T} {fs : List Value} (he : w[q0]? = some (a, .inr (ci, fs))) (hc : cl[ci]? = some (y.cls, T, N)) (hrc : rm.cells = 0) (hrs : rm.slots = 0) (hR : rm.frames + 1 ≤ R.frames ∧ 8 + (n + 11) + rm.locals ≤ R.locals) (hn : As.length = na) (hl : ls.size = nL) (hst : st = As.reverse ++ .ref a :: rest) (hW : (rest.map fun v => v.category).sum ≤ 8) (hdg : decode cc pc = .ok (.invokevirtual idx, 3)) (hf : cells ≤ R.cells ∧ slots ≤ R.slots)
    (kk : ∀ (z : Int32) (u : S) (H1 : Heap) (locs1 : List Loc), post z u → va_P D cl (w1 u) H1 → H.size ≤ H1.size → (∀ q : Nat, q < H.size → ¬ A q → H1[q]? = H[q]?) → va_S A0 H0 H1 locs1 → W p l e R s m args below meth c H1 locs1 cells slots Q (F0 m (pc + 3) ls (.int z :: rest))) : W p l e R s m args below meth c H locs cells slots Q (F0 m pc ls st) :=
  va_calli (run_V E hM hk hrc hrs hR ⟨(preW hK hP (.ref a :: As)).1, va_recv hK hP hc he, (preW hK hP (.ref a :: As)).2⟩ hn hl hst hW hdg hf) hS (fun q _ h => hA q h) hA (fun z u t H1 locs1 ht _ hp hB hz hk1 hS1 => kk z u H1 locs1 hp (by rw [← ht]; exact hB) hz hk1 hS1)
theorem cV_wl (E : CallFix p m c cc nL s args tG own) {a : Nat} {S : Type} {post : Int64 → S → Prop} {w1 : S → va_W} {A A0 : Nat → Prop} (hM : Met l y (wA y b n r) rm (va_Pc (.ref a :: As) (pW D cl tys w)) (qL post D cl w1 A) 0 0 A) (hk : kV own idx y b n r na) (hK : va_K D cl tys s) (hP : va_P D cl w H) (hS : va_S A0 H0 H locs) (hA : ∀ q, A q → A0 q) (q0 : Nat) {ci N : Nat} {T : u_T} {fs : List Value} (he : w[q0]? = some (a, .inr (ci, fs))) (hc : cl[ci]? = some (y.cls, T, N)) (hrc : rm.cells = 0) (hrs : rm.slots = 0) (hR : rm.frames + 1 ≤ R.frames ∧ 8 + (n + 11) + rm.locals ≤ R.locals) (hn : As.length = na) (hl : ls.size = nL) (hst : st = As.reverse ++ .ref a :: rest) (hW : (rest.map fun v => v.category).sum ≤ 8) (hdg : decode cc pc = .ok (.invokevirtual idx, 3)) (hf : cells ≤ R.cells ∧ slots ≤ R.slots)
    (kk : ∀ (z : Int64) (u : S) (H1 : Heap) (locs1 : List Loc), post z u → va_P D cl (w1 u) H1 → H.size ≤ H1.size → (∀ q : Nat, q < H.size → ¬ A q → H1[q]? = H[q]?) → va_S A0 H0 H1 locs1 → W p l e R s m args below meth c H1 locs1 cells slots Q (F0 m (pc + 3) ls (.long z :: rest))) : W p l e R s m args below meth c H locs cells slots Q (F0 m pc ls st) :=
  va_calll (run_V E hM hk hrc hrs hR ⟨(preW hK hP (.ref a :: As)).1, va_recv hK hP hc he, (preW hK hP (.ref a :: As)).2⟩ hn hl hst hW hdg hf) hS (fun q _ h => hA q h) hA (fun z u t H1 locs1 ht _ hp hB hz hk1 hS1 => kk z u H1 locs1 hp (by rw [← ht]; exact hB) hz hk1 hS1)
/-- ends -/
theorem e_v (E : CallFix p m c cc nL s args tG own) (hr : meth.sig.returnType = none) (hlk : meth.locks = false) (hdg : decode cc pc = .ok (.return_, 1)) : W p l e R s m args below meth c s.heap [] 0 0 (MQ below (va_Sv (fun _ => True)) args s 0 0 (fun _ => False)) (F0 m pc ls []) :=
  W.vret E.1 E.2.1 hr (fun t ht _ => ⟨rfl, trivial, ht⟩) (fun q h => nomatch h) hdg hlk
theorem e_i (E : CallFix p m c cc nL s args tG own) (hr : meth.sig.returnType = some .int) (hlk : meth.locks = false) {v w : Int32} (hv : v = w) (hdg : decode cc pc = .ok (.ireturn, 1)) : W p l e R s m args below meth c s.heap [] 0 0 (MQ below (vp_Si (fun z => z = w)) args s 0 0 (fun _ => False)) (F0 m pc ls [.int v]) :=
  W.iret E.1 E.2.1 hr (fun t ht _ => ⟨v, rfl, hv, ht⟩) (fun q h => nomatch h) hdg hlk
theorem e_z (E : CallFix p m c cc nL s args tG own) (hr : meth.sig.returnType = some .boolean) (hlk : meth.locks = false) {v : Int32} {w : Bool} (hv : v = bI w) (hdg : decode cc pc = .ok (.ireturn, 1)) : W p l e R s m args below meth c s.heap [] 0 0 (MQ below (vp_Si (fun z => z = bI w)) args s 0 0 (fun _ => False)) (F0 m pc ls [.int v]) :=
  W.zret E.1 E.2.1 hr (by rw [hv]; exact bI_nar w) (fun t ht _ => ⟨v, rfl, hv, ht⟩) (fun q h => nomatch h) hdg hlk
theorem e_l (E : CallFix p m c cc nL s args tG own) (hr : meth.sig.returnType = some .long) (hlk : meth.locks = false) {v w : Int64} (hv : v = w) (hdg : decode cc pc = .ok (.lreturn, 1)) : W p l e R s m args below meth c s.heap [] 0 0 (MQ below (vp_Sl (fun z => z = w)) args s 0 0 (fun _ => False)) (F0 m pc ls [.long v]) :=
  W.lret E.1 E.2.1 hr (fun t ht _ => ⟨v, rfl, hv, ht⟩) (fun q h => nomatch h) hdg hlk
theorem e_wv (E : CallFix p m c cc nL s args tG own) (hr : meth.sig.returnType = none) (hlk : meth.locks = false) {S : Type} {post : S → Prop} {w1 : S → va_W} {A : Nat → Prop} (hS : va_S A s.heap H locs) (u : S) (hp : post u) (hP : va_P D cl (w1 u) H) (hdg : decode cc pc = .ok (.return_, 1)) : W p l e R s m args below meth c H locs 0 0 (MQ below (qV post D cl w1 A) args s 0 0 A) (F0 m pc ls []) :=
  W.vret E.1 E.2.1 hr (fun t ht _ => ⟨⟨u, rfl, hp, (show va_P D cl (w1 u) t.heap by rw [ht]; exact hP)⟩, hS.F ht⟩) hS.2.2 hdg hlk
theorem e_wi (E : CallFix p m c cc nL s args tG own) (hr : meth.sig.returnType = some .int) (hlk : meth.locks = false) {S : Type} {post : Int32 → S → Prop} {w1 : S → va_W} {A : Nat → Prop} (hS : va_S A s.heap H locs) {v : Int32} (u : S) (hp : post v u) (hP : va_P D cl (w1 u) H) (hdg : decode cc pc = .ok (.ireturn, 1)) : W p l e R s m args below meth c H locs 0 0 (MQ below (qI post D cl w1 A) args s 0 0 A) (F0 m pc ls [.int v]) :=
  W.iret E.1 E.2.1 hr (fun t ht _ => ⟨⟨v, u, rfl, hp, (show va_P D cl (w1 u) t.heap by rw [ht]; exact hP)⟩, hS.F ht⟩) hS.2.2 hdg hlk
theorem e_wz (E : CallFix p m c cc nL s args tG own) (hr : meth.sig.returnType = some .boolean) (hlk : meth.locks = false) {S : Type} {post : Int32 → S → Prop} {w1 : S → va_W} {A : Nat → Prop} (hS : va_S A s.heap H locs) {v : Bool} (u : S) (hp : post (bI v) u) (hP : va_P D cl (w1 u) H) (hdg : decode cc pc = .ok (.ireturn, 1)) : W p l e R s m args below meth c H locs 0 0 (MQ below (qI post D cl w1 A) args s 0 0 A) (F0 m pc ls [.int (bI v)]) :=
  W.zret E.1 E.2.1 hr (bI_nar v) (fun t ht _ => ⟨⟨bI v, u, rfl, hp, (show va_P D cl (w1 u) t.heap by rw [ht]; exact hP)⟩, hS.F ht⟩) hS.2.2 hdg hlk
theorem e_wl (E : CallFix p m c cc nL s args tG own) (hr : meth.sig.returnType = some .long) (hlk : meth.locks = false) {S : Type} {post : Int64 → S → Prop} {w1 : S → va_W} {A : Nat → Prop} (hS : va_S A s.heap H locs) {v : Int64} (u : S) (hp : post v u) (hP : va_P D cl (w1 u) H) (hdg : decode cc pc = .ok (.lreturn, 1)) : W p l e R s m args below meth c H locs 0 0 (MQ below (qL post D cl w1 A) args s 0 0 A) (F0 m pc ls [.long v]) :=
  W.lret E.1 E.2.1 hr (fun t ht _ => ⟨⟨v, u, rfl, hp, (show va_P D cl (w1 u) t.heap by rw [ht]; exact hP)⟩, hS.F ht⟩) hS.2.2 hdg hlk
end CHB4
section CHB5
variable {p : Program} {l : Launch} {e : Env} {R : Room} {s : State} {m : MethodId} {args : Array Value} {below : List Frame} {meth : Method} {c : Code} {H : Heap} {locs : List Loc} {cells slots : Nat} {Q : State → Prop}
variable {cc : ByteArray} {pc : Nat} {ls : Array Slot} {rest : List Value} {nL : Nat} {own : String}
theorem n_idiv (E : CallFix p m c cc nL s args tG own) {a b : Nat} (ha : a < 2 ^ 31) (h0 : 0 < b) (hb : b < 2 ^ 31) (hdg : decode cc pc = .ok (.idiv, 1)) (k : W p l e R s m args below meth c H locs cells slots Q (F0 m (pc + 1) ls (.int (nI (a / b)) :: rest))) : W p l e R s m args below meth c H locs cells slots Q (F0 m pc ls (.int (nI b) :: .int (nI a) :: rest)) := lv_idiv E.1 E.2.1 hdg (nI_ne0 h0 hb) (tpi (pk_div ha h0 hb) k)
theorem n_irem (E : CallFix p m c cc nL s args tG own) {a b : Nat} (ha : a < 2 ^ 31) (h0 : 0 < b) (hb : b < 2 ^ 31) (hdg : decode cc pc = .ok (.irem, 1)) (k : W p l e R s m args below meth c H locs cells slots Q (F0 m (pc + 1) ls (.int (nI (a % b)) :: rest))) : W p l e R s m args below meth c H locs cells slots Q (F0 m pc ls (.int (nI b) :: .int (nI a) :: rest)) := lv_irem E.1 E.2.1 hdg (nI_ne0 h0 hb) (tpi (pk_rem ha h0 hb) k)
theorem n_i2l (E : CallFix p m c cc nL s args tG own) {a : Nat} (ha : a < 2 ^ 31) (hdg : decode cc pc = .ok (.i2l, 1)) (k : W p l e R s m args below meth c H locs cells slots Q (F0 m (pc + 1) ls (.long (lN a) :: rest))) : W p l e R s m args below meth c H locs cells slots Q (F0 m pc ls (.int (nI a) :: rest)) := lv_i2l E.1 E.2.1 hdg (nI_l ha) k
theorem dec1 {a : Nat} (h : 0 < a) : nI a + Int32.ofInt (-1) = nI (a - 1) := by
  obtain ⟨b, rfl⟩ : ∃ b, a = b + 1 := ⟨a - 1, by omega⟩
  exact pk_m1 b
end CHB5
end
section
/-! The two worlds (the hall's and the model's) over one table T, n rows, k conditions (columns kc, ops ko, values kv); and what is said of them. -/
def TR1 : u_T := fun k => match k with
  | 0 => ("ColumnHallModel", "code", "I", false)
  | 1 => ("ColumnHallModel", "count", "I", false)
  | 2 => ("ColumnHallModel", "cells", "[J", true)
  | 3 => ("ColumnHallModel", "conditions", "I", false)
  | 4 => ("ColumnHallModel", "columns", "[I", true)
  | 5 => ("ColumnHallModel", "ops", "[I", true)
  | _ => ("ColumnHallModel", "values", "[J", true)
def tyR1 : Nat → FieldType := fun k => match k with
  | 0 => .int
  | 1 => .int
  | 2 => .array .long
  | 3 => .int
  | 4 => .array .int
  | 5 => .array .int
  | _ => .array .long
theorem nmR1 : ∀ a, a < 7 → ∀ b, b < 7 → a ≠ b → (TR1 a).2.1 ≠ (TR1 b).2.1 := by decide +kernel
theorem tyR1_ok : ∀ k, k < 7 → parseFieldDescriptor (TR1 k).2.2.1 = some (tyR1 k) := by decide +kernel
abbrev c2 : List vw_C := [(RX0, TX0, 11), (RX1, TR1, 7)]
abbrev fX (ad : Nat → Nat) (n k : Nat) : List Value := [.ref (ad 1), .int (nI n), .ref (ad 2), .ref (ad 3), .ref (ad 4), .int (nI k), .ref (ad 5), .ref (ad 6), .ref (ad 7), .ref (ad 8), .ref (ad 9)]
abbrev wX (ad : Nat → Nat) (ca : Nat → ClassId) (T : Nat → Nat → Int64) (n : Nat) (kc ko : Nat → Nat) (kv : Nat → Int64) (k : Nat) (lo hi : Nat → Int64) (bw bb pk : Nat → Nat) : va_W :=
  [(ad 0, .inr (0, fX ad n k)), (ad 1, .inl (ca 1, 512, .inr (.inl (aT T)))), (ad 2, .inl (ca 2, 3, .inl (aN kc))), (ad 3, .inl (ca 3, 3, .inl (aN ko))), (ad 4, .inl (ca 4, 3, .inr (.inl kv))),
   (ad 5, .inl (ca 5, 32, .inr (.inl lo))), (ad 6, .inl (ca 6, 32, .inr (.inl hi))), (ad 7, .inl (ca 7, 32, .inl (aN bw))), (ad 8, .inl (ca 8, 32, .inl (aN bb))), (ad 9, .inl (ca 9, 128, .inl (aN pk)))]
abbrev tX (ca : Nat → ClassId) : List (ClassId × FieldType) := [(ca 1, .long), (ca 2, .int), (ca 3, .int), (ca 4, .long), (ca 5, .long), (ca 6, .long), (ca 7, .int), (ca 8, .int), (ca 9, .int)]
abbrev wR (ad : Nat → Nat) (ca : Nat → ClassId) (T : Nat → Nat → Int64) (n : Nat) (kc ko : Nat → Nat) (kv : Nat → Int64) (k cd : Nat) : va_W :=
  [(ad 0, .inr (1, [.int (nI cd), .int (nI n), .ref (ad 1), .int (nI k), .ref (ad 2), .ref (ad 3), .ref (ad 4)])), (ad 1, .inl (ca 1, 512, .inr (.inl (aR T)))), (ad 2, .inl (ca 2, 3, .inl (aN kc))), (ad 3, .inl (ca 3, 3, .inl (aN ko))), (ad 4, .inl (ca 4, 3, .inr (.inl kv)))]
abbrev tR (ca : Nat → ClassId) : List (ClassId × FieldType) := [(ca 1, .long), (ca 2, .int), (ca 3, .int), (ca 4, .long)]
/-! words of the pure side -/
section PURE
/-- whether a condition holds for a number; whether some number from lo to hi makes it hold -/
def hO (op : Nat) (x v : Int64) : Bool := if op = 0 then decide (x < v) else if op = 1 then !decide (v < x) else if op = 2 then decide (x = v) else if op = 3 then !decide (x < v) else if op = 4 then decide (v < x) else !decide (x = v)
def cH (op : Nat) (v lo hi : Int64) : Bool := if op = 0 then decide (lo < v) else if op = 1 then !decide (v < lo) else if op = 2 then !decide (v < lo) && !decide (hi < v) else if op = 3 then !decide (hi < v) else if op = 4 then decide (v < hi) else !decide (lo = v) || !decide (hi = v)
/-- all of the first k -/
def al (p : Nat → Bool) : Nat → Bool
  | 0 => true
  | j + 1 => al p j && p j
/-- how many of the first n -/
def ct (p : Nat → Bool) : Nat → Nat
  | 0 => 0
  | j + 1 => ct p j + if p j then 1 else 0
/-- what the first n add up to -/
def sm (f : Nat → Int64) : Nat → Int64
  | 0 => 0
  | j + 1 => sm f j + f j
/-- how many the first n add up to -/
def sn (f : Nat → Nat) : Nat → Nat
  | 0 => 0
  | j + 1 => sn f j + f j
/-- row r is chosen -/
def ch (T : Nat → Nat → Int64) (kc ko : Nat → Nat) (kv : Nat → Int64) (k r : Nat) : Bool := al (fun i => hO (ko i) (T r (kc i)) (kv i)) k
theorem al_iff {p : Nat → Bool} : ∀ {n : Nat}, al p n = true ↔ ∀ j, j < n → p j = true
  | 0 => ⟨fun _ j h => by omega, fun _ => rfl⟩
  | n + 1 => by
    rw [al, Bool.and_eq_true, al_iff (n := n)]
    refine ⟨fun h j hj => ?_, fun h => ⟨fun j hj => h j (by omega), h n (by omega)⟩⟩
    rcases Nat.lt_succ_iff_lt_or_eq.mp hj with h1 | h1
    · exact h.1 j h1
    · rw [h1]; exact h.2
theorem al_false {p : Nat → Bool} {n j : Nat} (hj : j < n) (h : p j = false) : al p n = false := by
  cases e : al p n
  · rfl
  · rw [al_iff.mp e j hj] at h; cases h
theorem al_congr {p q : Nat → Bool} {n : Nat} (h : ∀ j, j < n → p j = q j) : al p n = al q n := by
  induction n with
  | zero => rfl
  | succ n ih => rw [al, al, ih (fun j hj => h j (by omega)), h n (by omega)]
theorem ct_le (p : Nat → Bool) : ∀ n, ct p n ≤ n
  | 0 => Nat.le_refl 0
  | n + 1 => by have := ct_le p n; rw [ct]; split <;> omega
theorem ct_mono (p : Nat → Bool) {a b : Nat} (h : a ≤ b) : ct p a ≤ ct p b := by
  induction b with
  | zero => rw [Nat.le_zero.mp h]; exact Nat.le_refl _
  | succ b ih =>
    rcases Nat.lt_succ_iff_lt_or_eq.mp (Nat.lt_succ_of_le h) with h1 | h1
    · have := ih (by omega); rw [ct]; omega
    · rw [h1]; exact Nat.le_refl _
theorem ct_congr {p q : Nat → Bool} {n : Nat} (h : ∀ j, j < n → p j = q j) : ct p n = ct q n := by
  induction n with
  | zero => rfl
  | succ n ih => rw [ct, ct, ih (fun j hj => h j (by omega)), h n (by omega)]
theorem ct_none {p : Nat → Bool} {a b : Nat} (hab : a ≤ b) (h : ∀ j, a ≤ j → j < b → p j = false) : ct p b = ct p a := by
  induction b with
  | zero => rw [Nat.le_zero.mp hab]
  | succ b ih =>
    rcases Nat.lt_succ_iff_lt_or_eq.mp (Nat.lt_succ_of_le hab) with h1 | h1
    · rw [ct, ih (by omega) (fun j h2 h3 => h j h2 (by omega)), h b (by omega) (by omega)]; rfl
    · rw [h1]
theorem eq_lts (v x : Int64) : (!decide (v < x) && !decide (x < v)) = decide (x = v) := by
  by_cases hx : x = v
  · subst hx; simp [Int64.lt_irrefl]
  · rcases Int64.lt_or_lt_of_ne hx with h | h
    · rw [decide_eq_true h, decide_eq_false hx, Bool.not_true, Bool.and_false]
    · rw [decide_eq_true h, decide_eq_false hx, Bool.not_true, Bool.false_and]
theorem cH_one (op : Nat) (v x : Int64) : cH op v x x = hO op x v := by
  unfold cH hO
  by_cases h0 : op = 0
  · rw [if_pos h0, if_pos h0]
  rw [if_neg h0, if_neg h0]
  by_cases h1 : op = 1
  · rw [if_pos h1, if_pos h1]
  rw [if_neg h1, if_neg h1]
  by_cases h2 : op = 2
  · rw [if_pos h2, if_pos h2]; exact eq_lts v x
  rw [if_neg h2, if_neg h2]
  by_cases h3 : op = 3
  · rw [if_pos h3, if_pos h3]
  rw [if_neg h3, if_neg h3]
  by_cases h4 : op = 4
  · rw [if_pos h4, if_pos h4]
  rw [if_neg h4, if_neg h4, Bool.or_self]
end PURE
end
section
/-! Pure rows for the walks of the hall: choosing, packing. The rows uN .. uN_sk are from the bits to paste. -/
section PU1
/-! ===== Int64 as an unsigned number: uN x ===== -/
def uN (x : Int64) : Nat := x.toUInt64.toNat
theorem uN_lt (x : Int64) : uN x < 18446744073709551616 := x.toUInt64.toNat_lt
theorem uN_inj {x y : Int64} (h : uN x = uN y) : x = y := congrArg UInt64.toInt64 (UInt64.toNat_inj.mp h)
theorem uN_shr (x : Int64) (s : UInt64) : uN (x.toUInt64 >>> s).toInt64 = uN x / 2 ^ (s.toNat % 64) := by
  show (x.toUInt64 >>> s).toNat = _
  rw [UInt64.toNat_shiftRight, Nat.shiftRight_eq_div_pow]
  rfl
theorem uN_sk (x : Int64) {k : Nat} (hk : k < 64) : uN (x.toUInt64 >>> ((nI k).toInt64.toUInt64 &&& Int64.toUInt64 63)).toInt64 = uN x / 2 ^ k := by
  have h : ((nI k).toInt64.toUInt64 &&& Int64.toUInt64 63).toNat % 64 = k := by
    rw [nI_l (by omega), UInt64.toNat_and]
    have e : (lN k).toUInt64.toNat = k % 2 ^ 64 := rfl
    have e2 : (Int64.toUInt64 63).toNat = 2 ^ 6 - 1 := by decide
    rw [e, e2, Nat.and_two_pow_sub_one_eq_mod]
    omega
  rw [uN_shr, h]
theorem al_s {p : Nat → Bool} {j : Nat} (h1 : al p j = true) (h2 : p j = true) : al p (j + 1) = true := by rw [al, h1, h2]; rfl
theorem ct_t {p : Nat → Bool} {j : Nat} (h : p j = true) : ct p (j + 1) = ct p j + 1 := by rw [ct, if_pos h]
theorem ct_f {p : Nat → Bool} {j : Nat} (h : p j = false) : ct p (j + 1) = ct p j := by rw [ct, if_neg (by rw [h]; decide)]; rfl
theorem nd_t {x y : Int64} (h : x = y) : (!decide (x = y)) = false := by rw [decide_eq_true h]; rfl
theorem nd_f {x y : Int64} (h : ¬ x = y) : (!decide (x = y)) = true := by rw [decide_eq_false h]; rfl
/-- q lists the rows below r for which P holds, by rising numbers -/
def En (q : Nat → Nat) (P : Nat → Bool) (r : Nat) : Prop := ∀ t, t < r → P t = true → q (ct P t) = t
theorem en_0 (q : Nat → Nat) (P : Nat → Bool) : En q P 0 := fun t h => by omega
theorem en_t {q : Nat → Nat} {P : Nat → Bool} {r : Nat} (h : En q P r) (hP : P r = true) : En (fS q (ct P r) r) P (r + 1) := by
  intro t ht hPt
  rcases Nat.lt_succ_iff_lt_or_eq.mp ht with h1 | h1
  · have h2 := ct_mono P (show t + 1 ≤ r by omega)
    rw [ct_t hPt] at h2
    rw [fS_n (by omega)]
    exact h t h1 hPt
  · subst h1; exact fS_s
theorem en_f {q : Nat → Nat} {P : Nat → Bool} {r : Nat} (h : En q P r) (hP : P r = false) : En q P (r + 1) := by
  intro t ht hPt
  rcases Nat.lt_succ_iff_lt_or_eq.mp ht with h1 | h1
  · exact h t h1 hPt
  · subst h1; rw [hP] at hPt; cases hPt
theorem en_none {q : Nat → Nat} {P : Nat → Bool} {a b : Nat} (h : En q P a) (hn : ∀ j, a ≤ j → j < b → P j = false) : En q P b := by
  intro t ht hPt
  by_cases h1 : t < a
  · exact h t h1 hPt
  · rw [hn t (by omega) ht] at hPt; cases hPt
/-- the conditions are such; the full blocks' least and greatest bound their cells -/
def iK (kc ko : Nat → Nat) (k : Nat) : Prop := k ≤ 3 ∧ (∀ j, kc j < 4) ∧ (∀ j, ko j < 6)
def iB (T : Nat → Nat → Int64) (n : Nat) (lo hi : Nat → Int64) : Prop := ∀ b c j, b < n / 16 → c < 4 → j < 16 → ¬ T (16 * b + j) c < lo (b * 4 + c) ∧ ¬ hi (b * 4 + c) < T (16 * b + j) c
/-- block b is passed over -/
def po (n : Nat) (kc ko : Nat → Nat) (kv : Nat → Int64) (k : Nat) (lo hi : Nat → Int64) (b : Nat) : Bool := decide (b < n / 16) && !al (fun i => cH (ko i) (kv i) (lo (b * 4 + kc i)) (hi (b * 4 + kc i))) k
theorem po_ge {n : Nat} {kc ko : Nat → Nat} {kv : Nat → Int64} {k : Nat} {lo hi : Nat → Int64} {b : Nat} (h : n / 16 ≤ b) : po n kc ko kv k lo hi b = false := by
  rw [po, decide_eq_false (by omega)]; rfl
theorem po_lt {n : Nat} {kc ko : Nat → Nat} {kv : Nat → Int64} {k : Nat} {lo hi : Nat → Int64} {b : Nat} (h : b < n / 16) : po n kc ko kv k lo hi b = !al (fun i => cH (ko i) (kv i) (lo (b * 4 + kc i)) (hi (b * 4 + kc i))) k := by
  rw [po, decide_eq_true h]; rfl
theorem cH_wide {op : Nat} {v x lo hi : Int64} (h1 : ¬ x < lo) (h2 : ¬ hi < x) (h : hO op x v = true) : cH op v lo hi = true := by
  rw [Int64.lt_iff_toInt_lt] at h1 h2
  unfold hO at h
  unfold cH
  by_cases h0 : op = 0
  · simp only [h0, if_true, decide_eq_true_eq, Int64.lt_iff_toInt_lt] at h ⊢; omega
  by_cases h3 : op = 1
  · simp [h3, Int64.le_iff_toInt_le] at h ⊢; omega
  by_cases h4 : op = 2
  · simp [h4, Int64.le_iff_toInt_le] at h ⊢; subst h; omega
  by_cases h5 : op = 3
  · simp [h5, Int64.le_iff_toInt_le] at h ⊢; omega
  by_cases h6 : op = 4
  · simp [h6, Int64.lt_iff_toInt_lt] at h ⊢; omega
  · simp [h0, h3, h4, h5, h6] at h ⊢
    by_cases e : lo = v
    · right
      intro e2
      subst e; subst e2
      exact h (Int64.toInt_inj.mp (by omega))
    · exact Or.inl e
/-- a block that is passed over has no chosen row -/
theorem po_none {T : Nat → Nat → Int64} {n : Nat} {kc ko : Nat → Nat} {kv : Nat → Int64} {k : Nat} {lo hi : Nat → Int64} {b : Nat} (hB : iB T n lo hi) (hkc : ∀ j, kc j < 4) (h : po n kc ko kv k lo hi b = true) : ∀ j, b * 16 ≤ j → j < b * 16 + 16 → ch T kc ko kv k j = false := by
  intro j h1 h2
  unfold po at h
  rw [Bool.and_eq_true, Bool.not_eq_true'] at h
  obtain ⟨hb, ha⟩ := h
  have hb := of_decide_eq_true hb
  cases e : ch T kc ko kv k j
  · rfl
  · exfalso
    have hall : al (fun i => cH (ko i) (kv i) (lo (b * 4 + kc i)) (hi (b * 4 + kc i))) k = true := by
      rw [al_iff]
      intro i hi
      have e1 := (al_iff (p := fun i => hO (ko i) (T j (kc i)) (kv i))).mp e i hi
      have e2 := hB b (kc i) (j - b * 16) hb (hkc i) (by omega)
      rw [show 16 * b + (j - b * 16) = j by omega] at e2
      exact cH_wide e2.1 e2.2 e1
    rw [hall] at ha
    cases ha
theorem po_full {n : Nat} {kc ko : Nat → Nat} {kv : Nat → Int64} {k : Nat} {lo hi : Nat → Int64} {b : Nat} (h : po n kc ko kv k lo hi b = true) : b < n / 16 := by
  unfold po at h
  rw [Bool.and_eq_true] at h
  exact of_decide_eq_true h.1
/-- how many binary figures -/
def wN (m : Nat) : Nat := if m = 0 then 0 else Nat.log2 m + 1
def wd (x : Int64) : Nat := wN (uN x)
theorem wN_le {m w : Nat} : wN m ≤ w ↔ m < 2 ^ w := by
  unfold wN
  by_cases h : m = 0
  · subst h; simp [Nat.two_pow_pos]
  · rw [if_neg h, Nat.succ_le_iff, Nat.log2_lt h]
theorem wd_le64 (x : Int64) : wd x ≤ 64 := wN_le.mpr (uN_lt x)
theorem wd_sh (x : Int64) {w : Nat} (hw : w < 64) : (x.toUInt64 >>> ((nI w).toInt64.toUInt64 &&& Int64.toUInt64 63)).toInt64 = 0 ↔ wd x ≤ w := by
  rw [wd, wN_le]
  constructor
  · intro h
    have h1 := uN_sk x hw
    rw [h] at h1
    have h2 : uN 0 = 0 := rfl
    rw [h2] at h1
    exact Nat.lt_of_div_eq_zero (Nat.two_pow_pos w) h1.symm
  · intro h
    apply uN_inj
    rw [uN_sk x hw, Nat.div_eq_of_lt h]
    rfl
/-- the 16 cells of a column of a block; the least, the greatest; the ways -/
def xb (T : Nat → Nat → Int64) (b c : Nat) : Nat → Int64 := fun j => T (16 * b + j) c
def mn (x : Nat → Int64) : Nat → Int64
  | 0 => x 0
  | j + 1 => if x (j + 1) < mn x j then x (j + 1) else mn x j
def mx (x : Nat → Int64) : Nat → Int64
  | 0 => x 0
  | j + 1 => if x (j + 1) < mx x j then mx x j else x (j + 1)
def sb (x : Nat → Int64) (a : Nat) : Bool := !al (fun i => !decide (x i = x a)) a
def wds (x : Nat → Int64) : Nat := ct (fun j => !sb x j) 16
def rns (x : Nat → Int64) : Nat := 1 + ct (fun j => !decide (x (j + 1) = x j)) 15
def cb (c : Nat) : Nat := if c = 3 then 64 else 32
def stp (a : Nat × Nat) (w z : Nat) : Nat × Nat := if z < a.2 then (w, z) else a
def zR (x : Nat → Int64) (cb : Nat) : Nat := rns x * (cb + 5)
def zW (x : Nat → Int64) (cb : Nat) : Nat := wds x * cb + 16 * wd (lN (wds x - 1))
def zO (x : Nat → Int64) (cb : Nat) : Nat := cb + 7 + 16 * wd (mx x 15 - mn x 15)
def pck (x : Nat → Int64) (cb : Nat) : Nat × Nat := stp (stp (stp (0, 16 * cb) 1 (zR x cb)) 2 (zW x cb)) 3 (zO x cb)
theorem fS_fS {α : Type} (f : Nat → α) (p : Nat) (a b : α) : fS (fS f p a) p b = fS f p b := by
  funext j
  by_cases h : j = p <;> simp [fS, h]
theorem rns_le (x : Nat → Int64) : rns x ≤ 16 := by have := ct_le (fun j => !decide (x (j + 1) = x j)) 15; unfold rns; omega
theorem wds_le (x : Nat → Int64) : wds x ≤ 16 := ct_le _ 16
theorem wds_pos (x : Nat → Int64) : 1 ≤ wds x := by
  have h1 : ct (fun j => !sb x j) 1 = 1 := rfl
  have h2 := ct_mono (fun j => !sb x j) (show 1 ≤ 16 by omega)
  rw [h1] at h2
  exact h2
theorem cb_le (c : Nat) : cb c ≤ 64 := by unfold cb; split <;> omega
theorem zR_le (x : Nat → Int64) (c : Nat) : zR x (cb c) ≤ 16 * 69 := Nat.mul_le_mul (rns_le x) (by have := cb_le c; omega)
theorem zW_le (x : Nat → Int64) (c : Nat) : zW x (cb c) ≤ 16 * 64 + 16 * 64 := by
  have h1 := Nat.mul_le_mul (wds_le x) (cb_le c)
  have h2 := wd_le64 (lN (wds x - 1))
  unfold zW
  omega
theorem zO_le (x : Nat → Int64) (c : Nat) : zO x (cb c) ≤ 71 + 16 * 64 := by
  have h1 := cb_le c
  have h2 := wd_le64 (mx x 15 - mn x 15)
  unfold zO
  omega
theorem stp_le {a : Nat × Nat} {w z M : Nat} (h : a.2 ≤ M) : (stp a w z).2 ≤ M := by
  unfold stp
  split
  · show z ≤ M; omega
  · exact h
/-- what is known of column c of block b -/
def Pk (T : Nat → Nat → Int64) (b c : Nat) (lo hi : Nat → Int64) (bw bb : Nat → Nat) : Prop := lo (b * 4 + c) = mn (xb T b c) 15 ∧ hi (b * 4 + c) = mx (xb T b c) 15 ∧ bw (b * 4 + c) = (pck (xb T b c) (cb c)).1 ∧ bb (b * 4 + c) = (pck (xb T b c) (cb c)).2
theorem mn_le (x : Nat → Int64) {d j : Nat} (h : j ≤ d) : ¬ x j < mn x d := by
  induction d with
  | zero => rw [Nat.le_zero.mp h]; exact Int64.lt_irrefl
  | succ d ih =>
    rw [mn]
    rcases Nat.lt_succ_iff_lt_or_eq.mp (Nat.lt_succ_of_le h) with h1 | h1
    · have h2 := ih (by omega)
      split
      · intro h3
        exact h2 (Int64.lt_trans h3 (by assumption))
      · exact h2
    · subst h1
      split
      · exact Int64.lt_irrefl
      · assumption
theorem mx_ge (x : Nat → Int64) {d j : Nat} (h : j ≤ d) : ¬ mx x d < x j := by
  induction d with
  | zero => rw [Nat.le_zero.mp h]; exact Int64.lt_irrefl
  | succ d ih =>
    rw [mx]
    rcases Nat.lt_succ_iff_lt_or_eq.mp (Nat.lt_succ_of_le h) with h1 | h1
    · have h2 := ih (by omega)
      split
      · exact h2
      · rename_i h4
        intro h3
        rw [Int64.not_lt] at h4 h2
        exact Int64.lt_irrefl (Int64.lt_of_lt_of_le h3 (Int64.le_trans h2 h4))
    · subst h1
      split
      · rename_i h4
        exact Int64.lt_asymm h4
      · exact Int64.lt_irrefl
theorem iB_of {T : Nat → Nat → Int64} {n : Nat} {lo hi : Nat → Int64} {bw bb : Nat → Nat} (h : ∀ b c, b < n / 16 → c < 4 → Pk T b c lo hi bw bb) : iB T n lo hi := by
  intro b c j hb hc hj
  obtain ⟨h1, h2, -⟩ := h b c hb hc
  rw [h1, h2]
  exact ⟨mn_le (xb T b c) (show j ≤ 15 by omega), mx_ge (xb T b c) (show j ≤ 15 by omega)⟩
theorem nI_min {a b : Nat} (ha : a < 2 ^ 31) (hb : b < 2 ^ 31) : (if nI b < nI a then nI b else nI a) = nI (min a b) := by
  by_cases h : b < a
  · rw [if_pos ((nI_ltI hb ha).mpr h), Nat.min_eq_right (by omega)]
  · rw [if_neg (fun q => h ((nI_ltI hb ha).mp q)), Nat.min_eq_left (by omega)]
theorem o6 {o : Nat} (h : o < 6) : o = 0 ∨ o = 1 ∨ o = 2 ∨ o = 3 ∨ o = 4 ∨ o = 5 := by omega
theorem qk_s {T : Nat → Nat → Int64} {b c : Nat} {lo hi : Nat → Int64} {bw bb : Nat → Nat} (h : ∀ d, d < c → Pk T b d lo hi bw bb) : ∀ d, d < c + 1 → Pk T b d (fS lo (b * 4 + c) (mn (xb T b c) 15)) (fS hi (b * 4 + c) (mx (xb T b c) 15)) (fS bw (b * 4 + c) (pck (xb T b c) (cb c)).1) (fS bb (b * 4 + c) (pck (xb T b c) (cb c)).2) := by
  intro d hd
  rcases Nat.lt_succ_iff_lt_or_eq.mp hd with h1 | h1
  · obtain ⟨e1, e2, e3, e4⟩ := h d h1
    have hne : b * 4 + d ≠ b * 4 + c := by omega
    exact ⟨by rw [fS_n hne]; exact e1, by rw [fS_n hne]; exact e2, by rw [fS_n hne]; exact e3, by rw [fS_n hne]; exact e4⟩
  · subst h1
    exact ⟨fS_s, fS_s, fS_s, fS_s⟩
theorem qu_s {lo lo' hi hi' : Nat → Int64} {bw bw' bb bb' : Nat → Nat} {i p w z : Nat} {x y : Int64} (h : lo' i = lo i ∧ hi' i = hi i ∧ bw' i = bw i ∧ bb' i = bb i) (hp : i ≠ p) : fS lo' p x i = lo i ∧ fS hi' p y i = hi i ∧ fS bw' p w i = bw i ∧ fS bb' p z i = bb i :=
  ⟨by rw [fS_n hp]; exact h.1, by rw [fS_n hp]; exact h.2.1, by rw [fS_n hp]; exact h.2.2.1, by rw [fS_n hp]; exact h.2.2.2⟩
theorem qk_b {T : Nat → Nat → Int64} {b : Nat} {lo hi lo' hi' : Nat → Int64} {bw bb bw' bb' : Nat → Nat} (h : ∀ a c, a < b → c < 4 → Pk T a c lo hi bw bb) (h1 : ∀ c, c < 4 → Pk T b c lo' hi' bw' bb') (h2 : ∀ i, (i < b * 4 ∨ b * 4 + 4 ≤ i) → lo' i = lo i ∧ hi' i = hi i ∧ bw' i = bw i ∧ bb' i = bb i) : ∀ a c, a < b + 1 → c < 4 → Pk T a c lo' hi' bw' bb' := by
  intro a c ha hc
  rcases Nat.lt_succ_iff_lt_or_eq.mp ha with h3 | h3
  · obtain ⟨e1, e2, e3, e4⟩ := h a c h3 hc
    obtain ⟨f1, f2, f3, f4⟩ := h2 (a * 4 + c) (by omega)
    exact ⟨f1.trans e1, f2.trans e2, f3.trans e3, f4.trans e4⟩
  · subst h3
    exact h1 c hc
/-- a row moved -/
def mvR (T : Nat → Nat → Int64) (a b d : Nat) : Nat → Nat → Int64 := fun i j => if i = b ∧ j < d then T a j else T i j
theorem mvR_0 (T : Nat → Nat → Int64) (a b : Nat) : mvR T a b 0 = T := by
  funext i j
  simp [mvR]
theorem mvR_s (T : Nat → Nat → Int64) (a b d : Nat) : tS (mvR T a b d) b d (mvR T a b d a d) = mvR T a b (d + 1) := by
  have e : mvR T a b d a d = T a d := by simp [mvR]
  rw [e]
  funext i j
  by_cases h1 : i = b
  · subst h1
    by_cases h2 : j = d
    · subst h2; simp [tS, mvR]
    · by_cases h3 : j < d
      · simp [tS, mvR, h2, h3, Nat.lt_succ_of_lt h3]
      · simp [tS, mvR, h2, h3, show ¬ j < d + 1 by omega]
  · simp [tS, mvR, h1]
end PU1
end
section
/-! What the tables say, of fields and of calls. -/
set_option maxRecDepth 100000 in
theorem inX : ∀ w ∈ u_ws RX0 TX0 11, w ∈ tG := fun w h => tG_in ((show ∀ w ∈ u_ws RX0 TX0 11, w ∈ lw_tbl by decide +kernel) w h) (List.all_eq_true.mp (show (u_ws RX0 TX0 11).all goodWord = true by decide +kernel) w h)
set_option maxRecDepth 100000 in
theorem flX_9 : Cond.fieldLink RX0 9 RX0 (TX0 0).2.1 (TX0 0).2.2.1 ∈ tG := tG_in (List.mem_of_getElem? (i := 52) (by decide +kernel)) (by decide +kernel)
set_option maxRecDepth 100000 in
theorem flX_13 : Cond.fieldLink RX0 13 RX0 (TX0 1).2.1 (TX0 1).2.2.1 ∈ tG := tG_in (List.mem_of_getElem? (i := 53) (by decide +kernel)) (by decide +kernel)
set_option maxRecDepth 100000 in
theorem flX_17 : Cond.fieldLink RX0 17 RX0 (TX0 2).2.1 (TX0 2).2.2.1 ∈ tG := tG_in (List.mem_of_getElem? (i := 54) (by decide +kernel)) (by decide +kernel)
set_option maxRecDepth 100000 in
theorem flX_21 : Cond.fieldLink RX0 21 RX0 (TX0 3).2.1 (TX0 3).2.2.1 ∈ tG := tG_in (List.mem_of_getElem? (i := 55) (by decide +kernel)) (by decide +kernel)
set_option maxRecDepth 100000 in
theorem flX_24 : Cond.fieldLink RX0 24 RX0 (TX0 4).2.1 (TX0 4).2.2.1 ∈ tG := tG_in (List.mem_of_getElem? (i := 56) (by decide +kernel)) (by decide +kernel)
set_option maxRecDepth 100000 in
theorem flX_27 : Cond.fieldLink RX0 27 RX0 (TX0 5).2.1 (TX0 5).2.2.1 ∈ tG := tG_in (List.mem_of_getElem? (i := 57) (by decide +kernel)) (by decide +kernel)
set_option maxRecDepth 100000 in
theorem flX_30 : Cond.fieldLink RX0 30 RX0 (TX0 6).2.1 (TX0 6).2.2.1 ∈ tG := tG_in (List.mem_of_getElem? (i := 58) (by decide +kernel)) (by decide +kernel)
set_option maxRecDepth 100000 in
theorem flX_33 : Cond.fieldLink RX0 33 RX0 (TX0 7).2.1 (TX0 7).2.2.1 ∈ tG := tG_in (List.mem_of_getElem? (i := 59) (by decide +kernel)) (by decide +kernel)
set_option maxRecDepth 100000 in
theorem flX_36 : Cond.fieldLink RX0 36 RX0 (TX0 8).2.1 (TX0 8).2.2.1 ∈ tG := tG_in (List.mem_of_getElem? (i := 60) (by decide +kernel)) (by decide +kernel)
set_option maxRecDepth 100000 in
theorem flX_39 : Cond.fieldLink RX0 39 RX0 (TX0 9).2.1 (TX0 9).2.2.1 ∈ tG := tG_in (List.mem_of_getElem? (i := 61) (by decide +kernel)) (by decide +kernel)
set_option maxRecDepth 100000 in
theorem flX_42 : Cond.fieldLink RX0 42 RX0 (TX0 10).2.1 (TX0 10).2.2.1 ∈ tG := tG_in (List.mem_of_getElem? (i := 62) (by decide +kernel)) (by decide +kernel)
set_option maxRecDepth 100000 in
theorem kX_52 : kS RX0 52 yX0_spot cX0_spot 2 (some .int) 2 := ⟨⟨tG_in (List.mem_of_getElem? (i := 133) (by decide +kernel)) (by decide +kernel), tG_in (List.mem_of_getElem? (i := 135) (by decide +kernel)) (by decide +kernel), tG_in (List.mem_of_getElem? (i := 34) (by decide +kernel)) (by decide +kernel), by decide +kernel, by decide +kernel, by decide +kernel⟩, tG_in (List.mem_of_getElem? (i := 134) (by decide +kernel)) (by decide +kernel)⟩
set_option maxRecDepth 100000 in
theorem kX_56 : kV RX0 56 yX0_packBlock cX0_packBlock 3 none 1 := ⟨⟨tG_in (List.mem_of_getElem? (i := 152) (by decide +kernel)) (by decide +kernel), tG_in (List.mem_of_getElem? (i := 155) (by decide +kernel)) (by decide +kernel), tG_in (List.mem_of_getElem? (i := 34) (by decide +kernel)) (by decide +kernel), by decide +kernel, by decide +kernel, by decide +kernel⟩, tG_in (List.mem_of_getElem? (i := 154) (by decide +kernel)) (by decide +kernel), tG_in (List.mem_of_getElem? (i := 8) (by decide +kernel)) (by decide +kernel)⟩
set_option maxRecDepth 100000 in
theorem kX_60 : kS RX0 60 yX0_refuseBadColumn cX0_refuseBadColumn 1 none 1 := ⟨⟨tG_in (List.mem_of_getElem? (i := 275) (by decide +kernel)) (by decide +kernel), tG_in (List.mem_of_getElem? (i := 277) (by decide +kernel)) (by decide +kernel), tG_in (List.mem_of_getElem? (i := 34) (by decide +kernel)) (by decide +kernel), by decide +kernel, by decide +kernel, by decide +kernel⟩, tG_in (List.mem_of_getElem? (i := 276) (by decide +kernel)) (by decide +kernel)⟩
set_option maxRecDepth 100000 in
theorem kX_75 : kV RX0 75 yX0_pick cX0_pick 3 (some .int) 0 := ⟨⟨tG_in (List.mem_of_getElem? (i := 100) (by decide +kernel)) (by decide +kernel), tG_in (List.mem_of_getElem? (i := 103) (by decide +kernel)) (by decide +kernel), tG_in (List.mem_of_getElem? (i := 34) (by decide +kernel)) (by decide +kernel), by decide +kernel, by decide +kernel, by decide +kernel⟩, tG_in (List.mem_of_getElem? (i := 102) (by decide +kernel)) (by decide +kernel), tG_in (List.mem_of_getElem? (i := 0) (by decide +kernel)) (by decide +kernel)⟩
set_option maxRecDepth 100000 in
theorem kX_81 : kV RX0 81 yX0_startedBlocks cX0_startedBlocks 1 (some .int) 0 := ⟨⟨tG_in (List.mem_of_getElem? (i := 104) (by decide +kernel)) (by decide +kernel), tG_in (List.mem_of_getElem? (i := 107) (by decide +kernel)) (by decide +kernel), tG_in (List.mem_of_getElem? (i := 34) (by decide +kernel)) (by decide +kernel), by decide +kernel, by decide +kernel, by decide +kernel⟩, tG_in (List.mem_of_getElem? (i := 106) (by decide +kernel)) (by decide +kernel), tG_in (List.mem_of_getElem? (i := 1) (by decide +kernel)) (by decide +kernel)⟩
set_option maxRecDepth 100000 in
theorem kX_84 : kV RX0 84 yX0_isPassedOver cX0_isPassedOver 4 (some .boolean) 1 := ⟨⟨tG_in (List.mem_of_getElem? (i := 108) (by decide +kernel)) (by decide +kernel), tG_in (List.mem_of_getElem? (i := 111) (by decide +kernel)) (by decide +kernel), tG_in (List.mem_of_getElem? (i := 34) (by decide +kernel)) (by decide +kernel), by decide +kernel, by decide +kernel, by decide +kernel⟩, tG_in (List.mem_of_getElem? (i := 110) (by decide +kernel)) (by decide +kernel), tG_in (List.mem_of_getElem? (i := 2) (by decide +kernel)) (by decide +kernel)⟩
set_option maxRecDepth 100000 in
theorem kX_88 : kV RX0 88 yX0_sumOfPicked cX0_sumOfPicked 7 (some .long) 3 := ⟨⟨tG_in (List.mem_of_getElem? (i := 334) (by decide +kernel)) (by decide +kernel), tG_in (List.mem_of_getElem? (i := 337) (by decide +kernel)) (by decide +kernel), tG_in (List.mem_of_getElem? (i := 34) (by decide +kernel)) (by decide +kernel), by decide +kernel, by decide +kernel, by decide +kernel⟩, tG_in (List.mem_of_getElem? (i := 336) (by decide +kernel)) (by decide +kernel), tG_in (List.mem_of_getElem? (i := 16) (by decide +kernel)) (by decide +kernel)⟩
set_option maxRecDepth 100000 in
theorem kX_97 : kV RX0 97 yX0_boundOfPicked cX0_boundOfPicked 10 (some .long) 4 := ⟨⟨tG_in (List.mem_of_getElem? (i := 362) (by decide +kernel)) (by decide +kernel), tG_in (List.mem_of_getElem? (i := 365) (by decide +kernel)) (by decide +kernel), tG_in (List.mem_of_getElem? (i := 34) (by decide +kernel)) (by decide +kernel), by decide +kernel, by decide +kernel, by decide +kernel⟩, tG_in (List.mem_of_getElem? (i := 364) (by decide +kernel)) (by decide +kernel), tG_in (List.mem_of_getElem? (i := 17) (by decide +kernel)) (by decide +kernel)⟩
set_option maxRecDepth 100000 in
theorem kX_101 : kV RX0 101 yX0_sortPicked cX0_sortPicked 9 none 3 := ⟨⟨tG_in (List.mem_of_getElem? (i := 373) (by decide +kernel)) (by decide +kernel), tG_in (List.mem_of_getElem? (i := 376) (by decide +kernel)) (by decide +kernel), tG_in (List.mem_of_getElem? (i := 34) (by decide +kernel)) (by decide +kernel), by decide +kernel, by decide +kernel, by decide +kernel⟩, tG_in (List.mem_of_getElem? (i := 375) (by decide +kernel)) (by decide +kernel), tG_in (List.mem_of_getElem? (i := 18) (by decide +kernel)) (by decide +kernel)⟩
set_option maxRecDepth 100000 in
theorem kX_105 : kV RX0 105 yX0_startsGroup cX0_startsGroup 3 (some .boolean) 2 := ⟨⟨tG_in (List.mem_of_getElem? (i := 387) (by decide +kernel)) (by decide +kernel), tG_in (List.mem_of_getElem? (i := 390) (by decide +kernel)) (by decide +kernel), tG_in (List.mem_of_getElem? (i := 34) (by decide +kernel)) (by decide +kernel), by decide +kernel, by decide +kernel, by decide +kernel⟩, tG_in (List.mem_of_getElem? (i := 389) (by decide +kernel)) (by decide +kernel), tG_in (List.mem_of_getElem? (i := 19) (by decide +kernel)) (by decide +kernel)⟩
set_option maxRecDepth 100000 in
theorem kX_111 : kV RX0 111 yX0_groupStart cX0_groupStart 6 (some .int) 3 := ⟨⟨tG_in (List.mem_of_getElem? (i := 399) (by decide +kernel)) (by decide +kernel), tG_in (List.mem_of_getElem? (i := 402) (by decide +kernel)) (by decide +kernel), tG_in (List.mem_of_getElem? (i := 34) (by decide +kernel)) (by decide +kernel), by decide +kernel, by decide +kernel, by decide +kernel⟩, tG_in (List.mem_of_getElem? (i := 401) (by decide +kernel)) (by decide +kernel), tG_in (List.mem_of_getElem? (i := 20) (by decide +kernel)) (by decide +kernel)⟩
set_option maxRecDepth 100000 in
theorem kX_117 : kV RX0 117 yX0_groupEnd cX0_groupEnd 5 (some .int) 3 := ⟨⟨tG_in (List.mem_of_getElem? (i := 404) (by decide +kernel)) (by decide +kernel), tG_in (List.mem_of_getElem? (i := 407) (by decide +kernel)) (by decide +kernel), tG_in (List.mem_of_getElem? (i := 34) (by decide +kernel)) (by decide +kernel), by decide +kernel, by decide +kernel, by decide +kernel⟩, tG_in (List.mem_of_getElem? (i := 406) (by decide +kernel)) (by decide +kernel), tG_in (List.mem_of_getElem? (i := 21) (by decide +kernel)) (by decide +kernel)⟩
set_option maxRecDepth 100000 in
theorem kX_120 : kV RX0 120 yX0_refuseUnpackedBlock cX0_refuseUnpackedBlock 2 none 1 := ⟨⟨tG_in (List.mem_of_getElem? (i := 422) (by decide +kernel)) (by decide +kernel), tG_in (List.mem_of_getElem? (i := 425) (by decide +kernel)) (by decide +kernel), tG_in (List.mem_of_getElem? (i := 34) (by decide +kernel)) (by decide +kernel), by decide +kernel, by decide +kernel, by decide +kernel⟩, tG_in (List.mem_of_getElem? (i := 424) (by decide +kernel)) (by decide +kernel), tG_in (List.mem_of_getElem? (i := 22) (by decide +kernel)) (by decide +kernel)⟩
set_option maxRecDepth 100000 in
theorem kX_123 : kS RX0 123 yX0_place cX0_place 2 (some .int) 2 := ⟨⟨tG_in (List.mem_of_getElem? (i := 116) (by decide +kernel)) (by decide +kernel), tG_in (List.mem_of_getElem? (i := 118) (by decide +kernel)) (by decide +kernel), tG_in (List.mem_of_getElem? (i := 34) (by decide +kernel)) (by decide +kernel), by decide +kernel, by decide +kernel, by decide +kernel⟩, tG_in (List.mem_of_getElem? (i := 117) (by decide +kernel)) (by decide +kernel)⟩
set_option maxRecDepth 100000 in
theorem kX_126 : kV RX0 126 yX0_moveRow cX0_moveRow 4 none 2 := ⟨⟨tG_in (List.mem_of_getElem? (i := 144) (by decide +kernel)) (by decide +kernel), tG_in (List.mem_of_getElem? (i := 147) (by decide +kernel)) (by decide +kernel), tG_in (List.mem_of_getElem? (i := 34) (by decide +kernel)) (by decide +kernel), by decide +kernel, by decide +kernel, by decide +kernel⟩, tG_in (List.mem_of_getElem? (i := 146) (by decide +kernel)) (by decide +kernel), tG_in (List.mem_of_getElem? (i := 6) (by decide +kernel)) (by decide +kernel)⟩
set_option maxRecDepth 100000 in
theorem kX_130 : kV RX0 130 yX0_packFullBlocks cX0_packFullBlocks 2 none 0 := ⟨⟨tG_in (List.mem_of_getElem? (i := 148) (by decide +kernel)) (by decide +kernel), tG_in (List.mem_of_getElem? (i := 151) (by decide +kernel)) (by decide +kernel), tG_in (List.mem_of_getElem? (i := 34) (by decide +kernel)) (by decide +kernel), by decide +kernel, by decide +kernel, by decide +kernel⟩, tG_in (List.mem_of_getElem? (i := 150) (by decide +kernel)) (by decide +kernel), tG_in (List.mem_of_getElem? (i := 7) (by decide +kernel)) (by decide +kernel)⟩
set_option maxRecDepth 100000 in
theorem kX_135 : kV RX0 135 yX0_fullBlocks cX0_fullBlocks 1 (some .int) 0 := ⟨⟨tG_in (List.mem_of_getElem? (i := 112) (by decide +kernel)) (by decide +kernel), tG_in (List.mem_of_getElem? (i := 115) (by decide +kernel)) (by decide +kernel), tG_in (List.mem_of_getElem? (i := 34) (by decide +kernel)) (by decide +kernel), by decide +kernel, by decide +kernel, by decide +kernel⟩, tG_in (List.mem_of_getElem? (i := 114) (by decide +kernel)) (by decide +kernel), tG_in (List.mem_of_getElem? (i := 3) (by decide +kernel)) (by decide +kernel)⟩
set_option maxRecDepth 100000 in
theorem kX_140 : kV RX0 140 yX0_pickFromBlock cX0_pickFromBlock 6 (some .int) 2 := ⟨⟨tG_in (List.mem_of_getElem? (i := 122) (by decide +kernel)) (by decide +kernel), tG_in (List.mem_of_getElem? (i := 125) (by decide +kernel)) (by decide +kernel), tG_in (List.mem_of_getElem? (i := 34) (by decide +kernel)) (by decide +kernel), by decide +kernel, by decide +kernel, by decide +kernel⟩, tG_in (List.mem_of_getElem? (i := 124) (by decide +kernel)) (by decide +kernel), tG_in (List.mem_of_getElem? (i := 4) (by decide +kernel)) (by decide +kernel)⟩
set_option maxRecDepth 100000 in
theorem kX_148 : kV RX0 148 yX0_isChosen cX0_isChosen 5 (some .boolean) 1 := ⟨⟨tG_in (List.mem_of_getElem? (i := 129) (by decide +kernel)) (by decide +kernel), tG_in (List.mem_of_getElem? (i := 132) (by decide +kernel)) (by decide +kernel), tG_in (List.mem_of_getElem? (i := 34) (by decide +kernel)) (by decide +kernel), by decide +kernel, by decide +kernel, by decide +kernel⟩, tG_in (List.mem_of_getElem? (i := 131) (by decide +kernel)) (by decide +kernel), tG_in (List.mem_of_getElem? (i := 5) (by decide +kernel)) (by decide +kernel)⟩
set_option maxRecDepth 100000 in
theorem kX_151 : kS RX0 151 yX0_couldHold cX0_couldHold 7 (some .boolean) 4 := ⟨⟨tG_in (List.mem_of_getElem? (i := 119) (by decide +kernel)) (by decide +kernel), tG_in (List.mem_of_getElem? (i := 121) (by decide +kernel)) (by decide +kernel), tG_in (List.mem_of_getElem? (i := 34) (by decide +kernel)) (by decide +kernel), by decide +kernel, by decide +kernel, by decide +kernel⟩, tG_in (List.mem_of_getElem? (i := 120) (by decide +kernel)) (by decide +kernel)⟩
set_option maxRecDepth 100000 in
theorem kX_155 : kS RX0 155 yX0_comesBefore cX0_comesBefore 5 (some .boolean) 3 := ⟨⟨tG_in (List.mem_of_getElem? (i := 377) (by decide +kernel)) (by decide +kernel), tG_in (List.mem_of_getElem? (i := 379) (by decide +kernel)) (by decide +kernel), tG_in (List.mem_of_getElem? (i := 34) (by decide +kernel)) (by decide +kernel), by decide +kernel, by decide +kernel, by decide +kernel⟩, tG_in (List.mem_of_getElem? (i := 378) (by decide +kernel)) (by decide +kernel)⟩
set_option maxRecDepth 100000 in
theorem kX_159 : kV RX0 159 yX0_packColumn cX0_packColumn 8 none 2 := ⟨⟨tG_in (List.mem_of_getElem? (i := 156) (by decide +kernel)) (by decide +kernel), tG_in (List.mem_of_getElem? (i := 159) (by decide +kernel)) (by decide +kernel), tG_in (List.mem_of_getElem? (i := 34) (by decide +kernel)) (by decide +kernel), by decide +kernel, by decide +kernel, by decide +kernel⟩, tG_in (List.mem_of_getElem? (i := 158) (by decide +kernel)) (by decide +kernel), tG_in (List.mem_of_getElem? (i := 9) (by decide +kernel)) (by decide +kernel)⟩
set_option maxRecDepth 100000 in
theorem kX_162 : kV RX0 162 yX0_noteBounds cX0_noteBounds 8 none 2 := ⟨⟨tG_in (List.mem_of_getElem? (i := 160) (by decide +kernel)) (by decide +kernel), tG_in (List.mem_of_getElem? (i := 163) (by decide +kernel)) (by decide +kernel), tG_in (List.mem_of_getElem? (i := 34) (by decide +kernel)) (by decide +kernel), by decide +kernel, by decide +kernel, by decide +kernel⟩, tG_in (List.mem_of_getElem? (i := 162) (by decide +kernel)) (by decide +kernel), tG_in (List.mem_of_getElem? (i := 10) (by decide +kernel)) (by decide +kernel)⟩
set_option maxRecDepth 100000 in
theorem kX_165 : kV RX0 165 yX0_differentCells cX0_differentCells 4 (some .int) 1 := ⟨⟨tG_in (List.mem_of_getElem? (i := 170) (by decide +kernel)) (by decide +kernel), tG_in (List.mem_of_getElem? (i := 173) (by decide +kernel)) (by decide +kernel), tG_in (List.mem_of_getElem? (i := 34) (by decide +kernel)) (by decide +kernel), by decide +kernel, by decide +kernel, by decide +kernel⟩, tG_in (List.mem_of_getElem? (i := 172) (by decide +kernel)) (by decide +kernel), tG_in (List.mem_of_getElem? (i := 11) (by decide +kernel)) (by decide +kernel)⟩
set_option maxRecDepth 100000 in
theorem kX_169 : kS RX0 169 yX0_widthOf cX0_widthOf 3 (some .int) 1 := ⟨⟨tG_in (List.mem_of_getElem? (i := 178) (by decide +kernel)) (by decide +kernel), tG_in (List.mem_of_getElem? (i := 180) (by decide +kernel)) (by decide +kernel), tG_in (List.mem_of_getElem? (i := 34) (by decide +kernel)) (by decide +kernel), by decide +kernel, by decide +kernel, by decide +kernel⟩, tG_in (List.mem_of_getElem? (i := 179) (by decide +kernel)) (by decide +kernel)⟩
set_option maxRecDepth 100000 in
theorem kX_173 : kV RX0 173 yX0_runsOfCells cX0_runsOfCells 4 (some .int) 1 := ⟨⟨tG_in (List.mem_of_getElem? (i := 181) (by decide +kernel)) (by decide +kernel), tG_in (List.mem_of_getElem? (i := 184) (by decide +kernel)) (by decide +kernel), tG_in (List.mem_of_getElem? (i := 34) (by decide +kernel)) (by decide +kernel), by decide +kernel, by decide +kernel, by decide +kernel⟩, tG_in (List.mem_of_getElem? (i := 183) (by decide +kernel)) (by decide +kernel), tG_in (List.mem_of_getElem? (i := 13) (by decide +kernel)) (by decide +kernel)⟩
set_option maxRecDepth 100000 in
theorem kX_176 : kV RX0 176 yX0_offerWay cX0_offerWay 4 none 3 := ⟨⟨tG_in (List.mem_of_getElem? (i := 185) (by decide +kernel)) (by decide +kernel), tG_in (List.mem_of_getElem? (i := 188) (by decide +kernel)) (by decide +kernel), tG_in (List.mem_of_getElem? (i := 34) (by decide +kernel)) (by decide +kernel), by decide +kernel, by decide +kernel, by decide +kernel⟩, tG_in (List.mem_of_getElem? (i := 187) (by decide +kernel)) (by decide +kernel), tG_in (List.mem_of_getElem? (i := 14) (by decide +kernel)) (by decide +kernel)⟩
set_option maxRecDepth 100000 in
theorem kX_186 : kV RX0 186 yX0_stoodBefore cX0_stoodBefore 4 (some .boolean) 2 := ⟨⟨tG_in (List.mem_of_getElem? (i := 174) (by decide +kernel)) (by decide +kernel), tG_in (List.mem_of_getElem? (i := 177) (by decide +kernel)) (by decide +kernel), tG_in (List.mem_of_getElem? (i := 34) (by decide +kernel)) (by decide +kernel), by decide +kernel, by decide +kernel, by decide +kernel⟩, tG_in (List.mem_of_getElem? (i := 176) (by decide +kernel)) (by decide +kernel), tG_in (List.mem_of_getElem? (i := 12) (by decide +kernel)) (by decide +kernel)⟩
set_option maxRecDepth 100000 in
theorem mt_i : Cond.initialized "java/lang/Math" ∈ tG := tG_in (List.mem_of_getElem? (i := 40) (by decide +kernel)) (by decide +kernel)
set_option maxRecDepth 100000 in
theorem mi_l : Cond.methodLink RX0 143 Lib.Math.min.name ∈ tG := tG_in (List.mem_of_getElem? (i := 126) (by decide +kernel)) (by decide +kernel)
set_option maxRecDepth 100000 in
theorem mi_s : Cond.static Lib.Math.min.name ∈ tG := tG_in (List.mem_of_getElem? (i := 127) (by decide +kernel)) (by decide +kernel)
set_option maxRecDepth 100000 in
theorem mi_c : Cond.code Lib.Math.min.name Lib.Math.min.code 2 (some .int) ∈ tG := tG_in (List.mem_of_getElem? (i := 128) (by decide +kernel)) (by decide +kernel)
set_option maxRecDepth 100000 in
theorem ml_l : Cond.methodLink RX0 180 Lib.MathLoose.min_long.x ∈ tG := tG_in (List.mem_of_getElem? (i := 164) (by decide +kernel)) (by decide +kernel)
set_option maxRecDepth 100000 in
theorem ml_s : Cond.static Lib.MathLoose.min_long.x ∈ tG := tG_in (List.mem_of_getElem? (i := 165) (by decide +kernel)) (by decide +kernel)
set_option maxRecDepth 100000 in
theorem ml_c : Cond.code Lib.MathLoose.min_long.x Lib.MathLoose.min_long.code 4 (some .long) ∈ tG := tG_in (List.mem_of_getElem? (i := 166) (by decide +kernel)) (by decide +kernel)
set_option maxRecDepth 100000 in
theorem mxl_l : Cond.methodLink RX0 183 Lib.MathLoose.max_long.x ∈ tG := tG_in (List.mem_of_getElem? (i := 167) (by decide +kernel)) (by decide +kernel)
set_option maxRecDepth 100000 in
theorem mxl_s : Cond.static Lib.MathLoose.max_long.x ∈ tG := tG_in (List.mem_of_getElem? (i := 168) (by decide +kernel)) (by decide +kernel)
set_option maxRecDepth 100000 in
theorem mxl_c : Cond.code Lib.MathLoose.max_long.x Lib.MathLoose.max_long.code 4 (some .long) ∈ tG := tG_in (List.mem_of_getElem? (i := 169) (by decide +kernel)) (by decide +kernel)
end
section
/-! What the tables say of the model, of fields and of calls. -/
set_option maxRecDepth 100000 in
theorem inR : ∀ w ∈ u_ws RX1 TR1 7, w ∈ tG := fun w h => tG_in ((show ∀ w ∈ u_ws RX1 TR1 7, w ∈ lw_tbl by decide +kernel) w h) (List.all_eq_true.mp (show (u_ws RX1 TR1 7).all goodWord = true by decide +kernel) w h)
set_option maxRecDepth 100000 in
theorem flR_7 : Cond.fieldLink RX1 7 RX1 (TR1 2).2.1 (TR1 2).2.2.1 ∈ tG := tG_in (List.mem_of_getElem? (i := 442) (by decide +kernel)) (by decide +kernel)
set_option maxRecDepth 100000 in
theorem flR_13 : Cond.fieldLink RX1 13 RX1 (TR1 4).2.1 (TR1 4).2.2.1 ∈ tG := tG_in (List.mem_of_getElem? (i := 444) (by decide +kernel)) (by decide +kernel)
set_option maxRecDepth 100000 in
theorem flR_17 : Cond.fieldLink RX1 17 RX1 (TR1 5).2.1 (TR1 5).2.2.1 ∈ tG := tG_in (List.mem_of_getElem? (i := 445) (by decide +kernel)) (by decide +kernel)
set_option maxRecDepth 100000 in
theorem flR_20 : Cond.fieldLink RX1 20 RX1 (TR1 6).2.1 (TR1 6).2.2.1 ∈ tG := tG_in (List.mem_of_getElem? (i := 446) (by decide +kernel)) (by decide +kernel)
set_option maxRecDepth 100000 in
theorem flR_23 : Cond.fieldLink RX1 23 RX1 (TR1 0).2.1 (TR1 0).2.2.1 ∈ tG := tG_in (List.mem_of_getElem? (i := 440) (by decide +kernel)) (by decide +kernel)
set_option maxRecDepth 100000 in
theorem flR_27 : Cond.fieldLink RX1 27 RX1 (TR1 1).2.1 (TR1 1).2.2.1 ∈ tG := tG_in (List.mem_of_getElem? (i := 441) (by decide +kernel)) (by decide +kernel)
set_option maxRecDepth 100000 in
theorem flR_34 : Cond.fieldLink RX1 34 RX1 (TR1 3).2.1 (TR1 3).2.2.1 ∈ tG := tG_in (List.mem_of_getElem? (i := 443) (by decide +kernel)) (by decide +kernel)
set_option maxRecDepth 100000 in
theorem kR_30 : kS RX1 30 yX1_isColumn cX1_isColumn 1 (some .boolean) 1 := ⟨⟨tG_in (List.mem_of_getElem? (i := 478) (by decide +kernel)) (by decide +kernel), tG_in (List.mem_of_getElem? (i := 480) (by decide +kernel)) (by decide +kernel), tG_in (List.mem_of_getElem? (i := 35) (by decide +kernel)) (by decide +kernel), by decide +kernel, by decide +kernel, by decide +kernel⟩, tG_in (List.mem_of_getElem? (i := 479) (by decide +kernel)) (by decide +kernel)⟩
set_option maxRecDepth 100000 in
theorem kR_37 : kS RX1 37 yX1_holds cX1_holds 5 (some .boolean) 3 := ⟨⟨tG_in (List.mem_of_getElem? (i := 501) (by decide +kernel)) (by decide +kernel), tG_in (List.mem_of_getElem? (i := 503) (by decide +kernel)) (by decide +kernel), tG_in (List.mem_of_getElem? (i := 35) (by decide +kernel)) (by decide +kernel), by decide +kernel, by decide +kernel, by decide +kernel⟩, tG_in (List.mem_of_getElem? (i := 502) (by decide +kernel)) (by decide +kernel)⟩
set_option maxRecDepth 100000 in
theorem kR_41 : kV RX1 41 yX1_isChosen cX1_isChosen 4 (some .boolean) 1 := ⟨⟨tG_in (List.mem_of_getElem? (i := 497) (by decide +kernel)) (by decide +kernel), tG_in (List.mem_of_getElem? (i := 500) (by decide +kernel)) (by decide +kernel), tG_in (List.mem_of_getElem? (i := 35) (by decide +kernel)) (by decide +kernel), by decide +kernel, by decide +kernel, by decide +kernel⟩, tG_in (List.mem_of_getElem? (i := 499) (by decide +kernel)) (by decide +kernel), tG_in (List.mem_of_getElem? (i := 24) (by decide +kernel)) (by decide +kernel)⟩
set_option maxRecDepth 100000 in
theorem kR_44 : kV RX1 44 yX1_countChosen cX1_countChosen 3 (some .int) 0 := ⟨⟨tG_in (List.mem_of_getElem? (i := 493) (by decide +kernel)) (by decide +kernel), tG_in (List.mem_of_getElem? (i := 496) (by decide +kernel)) (by decide +kernel), tG_in (List.mem_of_getElem? (i := 35) (by decide +kernel)) (by decide +kernel), by decide +kernel, by decide +kernel, by decide +kernel⟩, tG_in (List.mem_of_getElem? (i := 495) (by decide +kernel)) (by decide +kernel), tG_in (List.mem_of_getElem? (i := 23) (by decide +kernel)) (by decide +kernel)⟩
set_option maxRecDepth 100000 in
theorem kR_48 : kV RX1 48 yX1_least cX1_least 6 (some .long) 2 := ⟨⟨tG_in (List.mem_of_getElem? (i := 512) (by decide +kernel)) (by decide +kernel), tG_in (List.mem_of_getElem? (i := 515) (by decide +kernel)) (by decide +kernel), tG_in (List.mem_of_getElem? (i := 35) (by decide +kernel)) (by decide +kernel), by decide +kernel, by decide +kernel, by decide +kernel⟩, tG_in (List.mem_of_getElem? (i := 514) (by decide +kernel)) (by decide +kernel), tG_in (List.mem_of_getElem? (i := 25) (by decide +kernel)) (by decide +kernel)⟩
set_option maxRecDepth 100000 in
theorem kR_52 : kV RX1 52 yX1_greatest cX1_greatest 6 (some .long) 2 := ⟨⟨tG_in (List.mem_of_getElem? (i := 516) (by decide +kernel)) (by decide +kernel), tG_in (List.mem_of_getElem? (i := 519) (by decide +kernel)) (by decide +kernel), tG_in (List.mem_of_getElem? (i := 35) (by decide +kernel)) (by decide +kernel), by decide +kernel, by decide +kernel, by decide +kernel⟩, tG_in (List.mem_of_getElem? (i := 518) (by decide +kernel)) (by decide +kernel), tG_in (List.mem_of_getElem? (i := 26) (by decide +kernel)) (by decide +kernel)⟩
set_option maxRecDepth 100000 in
theorem kR_55 : kS RX1 55 yX1_could cX1_could 7 (some .boolean) 4 := ⟨⟨tG_in (List.mem_of_getElem? (i := 520) (by decide +kernel)) (by decide +kernel), tG_in (List.mem_of_getElem? (i := 522) (by decide +kernel)) (by decide +kernel), tG_in (List.mem_of_getElem? (i := 35) (by decide +kernel)) (by decide +kernel), by decide +kernel, by decide +kernel, by decide +kernel⟩, tG_in (List.mem_of_getElem? (i := 521) (by decide +kernel)) (by decide +kernel)⟩
set_option maxRecDepth 100000 in
theorem kR_59 : kS RX1 59 yX1_width cX1_width 5 (some .int) 1 := ⟨⟨tG_in (List.mem_of_getElem? (i := 539) (by decide +kernel)) (by decide +kernel), tG_in (List.mem_of_getElem? (i := 541) (by decide +kernel)) (by decide +kernel), tG_in (List.mem_of_getElem? (i := 35) (by decide +kernel)) (by decide +kernel), by decide +kernel, by decide +kernel, by decide +kernel⟩, tG_in (List.mem_of_getElem? (i := 540) (by decide +kernel)) (by decide +kernel)⟩
set_option maxRecDepth 100000 in
theorem kR_63 : kV RX1 63 yX1_need cX1_need 12 (some .int) 3 := ⟨⟨tG_in (List.mem_of_getElem? (i := 535) (by decide +kernel)) (by decide +kernel), tG_in (List.mem_of_getElem? (i := 538) (by decide +kernel)) (by decide +kernel), tG_in (List.mem_of_getElem? (i := 35) (by decide +kernel)) (by decide +kernel), by decide +kernel, by decide +kernel, by decide +kernel⟩, tG_in (List.mem_of_getElem? (i := 537) (by decide +kernel)) (by decide +kernel), tG_in (List.mem_of_getElem? (i := 29) (by decide +kernel)) (by decide +kernel)⟩
set_option maxRecDepth 100000 in
theorem kR_67 : kV RX1 67 yX1_lacks cX1_lacks 3 (some .boolean) 2 := ⟨⟨tG_in (List.mem_of_getElem? (i := 527) (by decide +kernel)) (by decide +kernel), tG_in (List.mem_of_getElem? (i := 530) (by decide +kernel)) (by decide +kernel), tG_in (List.mem_of_getElem? (i := 35) (by decide +kernel)) (by decide +kernel), by decide +kernel, by decide +kernel, by decide +kernel⟩, tG_in (List.mem_of_getElem? (i := 529) (by decide +kernel)) (by decide +kernel), tG_in (List.mem_of_getElem? (i := 27) (by decide +kernel)) (by decide +kernel)⟩
set_option maxRecDepth 100000 in
theorem kR_71 : kV RX1 71 yX1_best cX1_best 6 (some .int) 2 := ⟨⟨tG_in (List.mem_of_getElem? (i := 531) (by decide +kernel)) (by decide +kernel), tG_in (List.mem_of_getElem? (i := 534) (by decide +kernel)) (by decide +kernel), tG_in (List.mem_of_getElem? (i := 35) (by decide +kernel)) (by decide +kernel), by decide +kernel, by decide +kernel, by decide +kernel⟩, tG_in (List.mem_of_getElem? (i := 533) (by decide +kernel)) (by decide +kernel), tG_in (List.mem_of_getElem? (i := 28) (by decide +kernel)) (by decide +kernel)⟩
set_option maxRecDepth 100000 in
theorem kR_79 : kV RX1 79 yX1_isFirst cX1_isFirst 5 (some .boolean) 2 := ⟨⟨tG_in (List.mem_of_getElem? (i := 568) (by decide +kernel)) (by decide +kernel), tG_in (List.mem_of_getElem? (i := 571) (by decide +kernel)) (by decide +kernel), tG_in (List.mem_of_getElem? (i := 35) (by decide +kernel)) (by decide +kernel), by decide +kernel, by decide +kernel, by decide +kernel⟩, tG_in (List.mem_of_getElem? (i := 570) (by decide +kernel)) (by decide +kernel), tG_in (List.mem_of_getElem? (i := 31) (by decide +kernel)) (by decide +kernel)⟩
set_option maxRecDepth 100000 in
theorem kR_82 : kV RX1 82 yX1_countGroups cX1_countGroups 4 (some .int) 1 := ⟨⟨tG_in (List.mem_of_getElem? (i := 564) (by decide +kernel)) (by decide +kernel), tG_in (List.mem_of_getElem? (i := 567) (by decide +kernel)) (by decide +kernel), tG_in (List.mem_of_getElem? (i := 35) (by decide +kernel)) (by decide +kernel), by decide +kernel, by decide +kernel, by decide +kernel⟩, tG_in (List.mem_of_getElem? (i := 566) (by decide +kernel)) (by decide +kernel), tG_in (List.mem_of_getElem? (i := 30) (by decide +kernel)) (by decide +kernel)⟩
set_option maxRecDepth 100000 in
theorem kR_86 : kV RX1 86 yX1_firstOf cX1_firstOf 7 (some .int) 2 := ⟨⟨tG_in (List.mem_of_getElem? (i := 576) (by decide +kernel)) (by decide +kernel), tG_in (List.mem_of_getElem? (i := 579) (by decide +kernel)) (by decide +kernel), tG_in (List.mem_of_getElem? (i := 35) (by decide +kernel)) (by decide +kernel), by decide +kernel, by decide +kernel, by decide +kernel⟩, tG_in (List.mem_of_getElem? (i := 578) (by decide +kernel)) (by decide +kernel), tG_in (List.mem_of_getElem? (i := 32) (by decide +kernel)) (by decide +kernel)⟩
set_option maxRecDepth 100000 in
theorem ldR_75 : Cond.constantLong RX1 75 (-9223372036854775808) ∈ tG := tG_in (List.mem_of_getElem? (i := 554) (by decide +kernel)) (by decide +kernel)
set_option maxRecDepth 100000 in
theorem ldR_77 : Cond.constantLong RX1 77 9223372036854775807 ∈ tG := tG_in (List.mem_of_getElem? (i := 555) (by decide +kernel)) (by decide +kernel)
end
section
/-! Pure rows: lists of rows, sorting by insertion, ranks. -/
section PU2
theorem en_inv {q : Nat → Nat} {P : Nat → Bool} : ∀ {n : Nat}, En q P n → ∀ j, j < ct P n → q j < n ∧ P (q j) = true ∧ ct P (q j) = j
  | 0, _, j, hj => by exact absurd hj (Nat.not_lt_zero j)
  | n + 1, h, j, hj => by
    have h0 : En q P n := fun t ht => h t (by omega)
    by_cases hP : P n = true
    · rw [ct_t hP] at hj
      by_cases hj2 : j < ct P n
      · obtain ⟨a, b, c⟩ := en_inv h0 j hj2
        exact ⟨by omega, b, c⟩
      · have hj3 : j = ct P n := by omega
        have e := h n (by omega) hP
        subst hj3
        rw [e]
        exact ⟨by omega, hP, rfl⟩
    · rw [ct_f (by simpa using hP)] at hj
      obtain ⟨a, b, c⟩ := en_inv h0 j hj
      exact ⟨by omega, b, c⟩
theorem en_up {q : Nat → Nat} {P : Nat → Bool} {n : Nat} (h : En q P n) {i j : Nat} (hij : i < j) (hj : j < ct P n) : q i < q j := by
  obtain ⟨-, b1, c1⟩ := en_inv h i (by omega)
  obtain ⟨-, -, c2⟩ := en_inv h j hj
  apply Classical.byContradiction
  intro hn
  have h1 := ct_mono P (show q j ≤ q i by omega)
  omega
theorem ct_tr {q : Nat → Nat} {P : Nat → Bool} {n : Nat} (h : En q P n) (g : Nat → Bool) : ∀ {r : Nat}, r ≤ n → ct (fun t => P t && g t) r = ct (fun j => g (q j)) (ct P r)
  | 0, _ => rfl
  | r + 1, hr => by
    have ih := ct_tr h g (r := r) (by omega)
    by_cases hP : P r = true
    · have e := h r (by omega) hP
      rw [ct_t hP, ct, ct, ih, hP, e]
      rfl
    · have hP2 : P r = false := by simpa using hP
      rw [ct_f hP2, ct, ih, hP2]
      rfl
theorem sm_tr {q : Nat → Nat} {P : Nat → Bool} {n : Nat} (h : En q P n) (f : Nat → Int64) : ∀ {r : Nat}, r ≤ n → sm (fun t => if P t then f t else 0) r = sm (fun j => f (q j)) (ct P r)
  | 0, _ => rfl
  | r + 1, hr => by
    have ih := sm_tr h f (r := r) (by omega)
    by_cases hP : P r = true
    · have e := h r (by omega) hP
      rw [ct_t hP, sm, sm, ih, if_pos hP, e]
    · have hP2 : P r = false := by simpa using hP
      rw [ct_f hP2, sm, ih, if_neg hP, Int64.add_zero]
/-- which cell comes before; which row -/
def bef (d : Bool) (x y : Int64) : Bool := if d then decide (y < x) else decide (x < y)
def bfb (T : Nat → Nat → Int64) (c : Nat) (d : Bool) (a b : Nat) : Bool := bef d (T a c) (T b c) || (decide (T a c = T b c) && decide (a < b))
theorem bef_tr {d : Bool} {x y z : Int64} (h1 : bef d x y = true) (h2 : bef d y z = true) : bef d x z = true := by
  cases d
  · simp only [bef, Bool.false_eq_true, if_false, decide_eq_true_eq, Int64.lt_iff_toInt_lt] at h1 h2 ⊢; omega
  · simp only [bef, if_true, decide_eq_true_eq, Int64.lt_iff_toInt_lt] at h1 h2 ⊢; omega
theorem bef_irr (d : Bool) (x : Int64) : bef d x x = false := by cases d <;> simp [bef]
theorem bef_tri (d : Bool) (x y : Int64) : bef d x y = true ∨ x = y ∨ bef d y x = true := by
  cases d
  · simp only [bef, Bool.false_eq_true, if_false, decide_eq_true_eq, Int64.lt_iff_toInt_lt, ← Int64.toInt_inj]; omega
  · simp only [bef, if_true, decide_eq_true_eq, Int64.lt_iff_toInt_lt, ← Int64.toInt_inj]; omega
theorem bfb_iff {T : Nat → Nat → Int64} {c : Nat} {d : Bool} {a b : Nat} : bfb T c d a b = true ↔ (bef d (T a c) (T b c) = true ∨ (T a c = T b c ∧ a < b)) := by
  simp [bfb]
theorem bfb_tr {T : Nat → Nat → Int64} {c : Nat} {d : Bool} {x y z : Nat} (h1 : bfb T c d x y = true) (h2 : bfb T c d y z = true) : bfb T c d x z = true := by
  rw [bfb_iff] at h1 h2 ⊢
  rcases h1 with h1 | ⟨e1, h1⟩ <;> rcases h2 with h2 | ⟨e2, h2⟩
  · exact Or.inl (bef_tr h1 h2)
  · exact Or.inl (by rw [← e2]; exact h1)
  · exact Or.inl (by rw [e1]; exact h2)
  · exact Or.inr ⟨e1.trans e2, by omega⟩
theorem bfb_irr {T : Nat → Nat → Int64} {c : Nat} {d : Bool} {x : Nat} : bfb T c d x x = false := by
  cases e : bfb T c d x x
  · rfl
  · rw [bfb_iff, bef_irr] at e
    rcases e with e | ⟨-, e⟩
    · cases e
    · omega
theorem bfb_asym {T : Nat → Nat → Int64} {c : Nat} {d : Bool} {x y : Nat} (h : bfb T c d x y = true) : bfb T c d y x = false := by
  cases e : bfb T c d y x
  · rfl
  · have := bfb_tr h e
    rw [bfb_irr] at this
    cases this
/-- the row at i put at h, what stood there moved up; the same while the hole is at h -/
def iA (f : Nat → Nat) (h i : Nat) : Nat → Nat := fun j => if j = h then f i else if h < j ∧ j ≤ i then f (j - 1) else f j
def hA (f : Nat → Nat) (h i : Nat) : Nat → Nat := fun j => if h < j ∧ j ≤ i then f (j - 1) else f j
theorem hA_0 (f : Nat → Nat) (i : Nat) : hA f i i = f := by
  funext j
  unfold hA
  rw [if_neg (by omega)]
theorem hA_at {f : Nat → Nat} {h i j : Nat} (hj : j ≤ h) : hA f h i j = f j := by
  unfold hA
  rw [if_neg (by omega)]
theorem hA_s (f : Nat → Nat) {h i : Nat} (h0 : 0 < h) (hi : h ≤ i) : fS (hA f h i) h (f (h - 1)) = hA f (h - 1) i := by
  funext j
  by_cases hj : j = h
  · subst hj
    rw [fS_s]
    unfold hA
    rw [if_pos (by omega)]
  · rw [fS_n hj]
    unfold hA
    by_cases h1 : h < j ∧ j ≤ i
    · rw [if_pos h1, if_pos (by omega)]
    · rw [if_neg h1, if_neg (by omega)]
theorem hA_f (f : Nat → Nat) (h i : Nat) : fS (hA f h i) h (f i) = iA f h i := by
  funext j
  by_cases hj : j = h
  · subst hj
    rw [fS_s]
    unfold iA
    rw [if_pos rfl]
  · rw [fS_n hj]
    unfold iA hA
    rw [if_neg hj]
/-- the same rows, in another order -/
def Pm (q p : Nat → Nat) (m : Nat) : Prop := (∀ g : Nat → Bool, ct (fun j => g (q j)) m = ct (fun j => g (p j)) m) ∧ (∀ f : Nat → Int64, sm (fun j => f (q j)) m = sm (fun j => f (p j)) m)
theorem Pm.rf (q : Nat → Nat) (m : Nat) : Pm q q m := ⟨fun _ => rfl, fun _ => rfl⟩
theorem Pm.tr {q p o : Nat → Nat} {m : Nat} (h1 : Pm q p m) (h2 : Pm p o m) : Pm q o m := ⟨fun g => (h1.1 g).trans (h2.1 g), fun f => (h1.2 f).trans (h2.2 f)⟩
def swp {α : Type} (F : Nat → α) (a : Nat) : Nat → α := fun j => if j = a then F (a + 1) else if j = a + 1 then F a else F j
theorem sm_congr {f g : Nat → Int64} {n : Nat} (h : ∀ j, j < n → f j = g j) : sm f n = sm g n := by
  induction n with
  | zero => rfl
  | succ n ih => rw [sm, sm, ih (fun j hj => h j (by omega)), h n (by omega)]
theorem ct_swp (p : Nat → Bool) (a : Nat) : ∀ {m : Nat}, a + 1 < m → ct (swp p a) m = ct p m := by
  intro m
  induction m with
  | zero => intro h; omega
  | succ m ih =>
    intro h
    by_cases h1 : a + 1 < m
    · rw [ct, ct, ih h1, show swp p a m = p m by unfold swp; rw [if_neg (by omega), if_neg (by omega)]]
    · have hm : m = a + 1 := by omega
      subst hm
      have e1 : ct (swp p a) a = ct p a := ct_congr fun j hj => by unfold swp; rw [if_neg (by omega), if_neg (by omega)]
      have e2 : swp p a a = p (a + 1) := by unfold swp; rw [if_pos rfl]
      have e3 : swp p a (a + 1) = p a := by unfold swp; rw [if_neg (by omega), if_pos rfl]
      rw [ct, ct, ct, ct, e1, e2, e3]
      omega
theorem sm_swp (p : Nat → Int64) (a : Nat) : ∀ {m : Nat}, a + 1 < m → sm (swp p a) m = sm p m := by
  intro m
  induction m with
  | zero => intro h; omega
  | succ m ih =>
    intro h
    by_cases h1 : a + 1 < m
    · rw [sm, sm, ih h1, show swp p a m = p m by unfold swp; rw [if_neg (by omega), if_neg (by omega)]]
    · have hm : m = a + 1 := by omega
      subst hm
      have e1 : sm (swp p a) a = sm p a := sm_congr fun j hj => by unfold swp; rw [if_neg (by omega), if_neg (by omega)]
      have e2 : swp p a a = p (a + 1) := by unfold swp; rw [if_pos rfl]
      have e3 : swp p a (a + 1) = p a := by unfold swp; rw [if_neg (by omega), if_pos rfl]
      rw [sm, sm, sm, sm, e1, e2, e3, Int64.add_assoc, Int64.add_assoc, Int64.add_comm (p a)]
theorem pm_sw (q : Nat → Nat) {a m : Nat} (h : a + 1 < m) : Pm (swp q a) q m := by
  refine ⟨fun g => ?_, fun f => ?_⟩
  · have e : (fun j => g (swp q a j)) = swp (fun j => g (q j)) a := by
      funext j; unfold swp; split <;> (try split) <;> rfl
    rw [e, ct_swp _ a h]
  · have e : (fun j => f (swp q a j)) = swp (fun j => f (q j)) a := by
      funext j; unfold swp; split <;> (try split) <;> rfl
    rw [e, sm_swp _ a h]
theorem iA_i (f : Nat → Nat) (i : Nat) : iA f i i = f := by
  funext j
  unfold iA
  by_cases h : j = i
  · rw [if_pos h, h]
  · rw [if_neg h, if_neg (by omega)]
theorem iA_s (f : Nat → Nat) {h i : Nat} (hi : h < i) : iA f h i = swp (iA f (h + 1) i) h := by
  funext j
  unfold swp
  by_cases h1 : j = h
  · subst h1
    rw [if_pos rfl]
    unfold iA
    rw [if_pos rfl, if_pos rfl]
  · rw [if_neg h1]
    by_cases h2 : j = h + 1
    · subst h2
      rw [if_pos rfl]
      unfold iA
      rw [if_neg (by omega), if_pos (by omega), if_neg (by omega), if_neg (by omega)]
      rfl
    · rw [if_neg h2]
      unfold iA
      rw [if_neg h1, if_neg h2]
      by_cases h3 : h < j ∧ j ≤ i
      · rw [if_pos h3, if_pos (by omega)]
      · rw [if_neg h3, if_neg (by omega)]
theorem pm_iA (f : Nat → Nat) {i m : Nat} (hm : i < m) : ∀ (t h : Nat), h + t = i → Pm (iA f h i) f m
  | 0, h, e => by rw [show h = i by omega, iA_i]; exact Pm.rf f m
  | t + 1, h, e => by
    rw [iA_s f (by omega)]
    exact (pm_sw _ (by omega)).tr (pm_iA f hm t (h + 1) (by omega))
/-- sorted -/
def Sd (T : Nat → Nat → Int64) (c : Nat) (d : Bool) (q : Nat → Nat) (m : Nat) : Prop := ∀ i j, i < j → j < m → bfb T c d (q i) (q j) = true
theorem Sd.ins {T : Nat → Nat → Int64} {c : Nat} {d : Bool} {q : Nat → Nat} {h i : Nat} (hs : Sd T c d q i) (hi : h ≤ i) (hx : h = 0 ∨ bef d (T (q i) c) (T (q (h - 1)) c) = false) (hm : ∀ j, h ≤ j → j < i → bef d (T (q i) c) (T (q j) c) = true) (hlt : ∀ j, j < i → q j < q i) : Sd T c d (iA q h i) (i + 1) := by
  have X : ∀ a, a < h → bfb T c d (q a) (q i) = true := by
    intro a ha
    rcases hx with hx | hx
    · omega
    · have h1 : bfb T c d (q (h - 1)) (q i) = true := by
        rw [bfb_iff]
        rcases bef_tri d (T (q i) c) (T (q (h - 1)) c) with e | e | e
        · rw [hx] at e; cases e
        · exact Or.inr ⟨e.symm, hlt _ (by omega)⟩
        · exact Or.inl e
      by_cases h2 : a = h - 1
      · rw [h2]; exact h1
      · exact bfb_tr (hs a (h - 1) (by omega) (by omega)) h1
  intro a b hab hb
  unfold iA
  by_cases hb1 : b = h
  · rw [if_neg (show ¬ a = h by omega), if_neg (show ¬ (h < a ∧ a ≤ i) by omega), if_pos hb1]
    exact X a (by omega)
  · rw [if_neg hb1]
    by_cases hb2 : h < b ∧ b ≤ i
    · rw [if_pos hb2]
      by_cases ha1 : a = h
      · rw [if_pos ha1, bfb_iff]
        exact Or.inl (hm (b - 1) (by omega) (by omega))
      · rw [if_neg ha1]
        by_cases ha2 : h < a ∧ a ≤ i
        · rw [if_pos ha2]; exact hs (a - 1) (b - 1) (by omega) (by omega)
        · rw [if_neg ha2]; exact hs a (b - 1) (by omega) (by omega)
    · rw [if_neg hb2, if_neg (show ¬ a = h by omega), if_neg (show ¬ (h < a ∧ a ≤ i) by omega)]
      exact hs a b hab (by omega)
theorem iA_lt {q : Nat → Nat} {h i j t : Nat} (hj : j < i + 1) (hlt : ∀ j, j < i → q j < t) (ht : q i < t) : iA q h i j < t := by
  unfold iA
  split
  · exact ht
  · split
    · exact hlt _ (by omega)
    · by_cases e : j = i
      · rw [e]; exact ht
      · exact hlt _ (by omega)
theorem iA_ge {q : Nat → Nat} {h i j : Nat} (hi : h ≤ i) (hj : i < j) : iA q h i j = q j := by
  unfold iA
  rw [if_neg (by omega), if_neg (by omega)]
theorem ct_all {p : Nat → Bool} {n : Nat} (h : ∀ j, j < n → p j = true) : ct p n = n := by
  induction n with
  | zero => rfl
  | succ n ih => rw [ct_t (h n (by omega)), ih fun j hj => h j (by omega)]
/-- a row's rank in a sorted list -/
theorem Sd.rank {T : Nat → Nat → Int64} {c : Nat} {d : Bool} {q : Nat → Nat} {m k : Nat} (hs : Sd T c d q m) (hk : k < m) : ct (fun j => bfb T c d (q j) (q k)) m = k := by
  rw [ct_none (a := k) (by omega) (fun j h1 h2 => ?_), ct_all fun j hj => hs j k hj hk]
  by_cases e : j = k
  · show bfb T c d (q j) (q k) = false
    rw [e]; exact bfb_irr
  · exact bfb_asym (hs k j (by omega) h2)
theorem ct_pos {p : Nat → Bool} : ∀ {n : Nat}, 0 < ct p n → ∃ j, j < n ∧ p j = true
  | 0, h => absurd h (Nat.not_lt_zero 0)
  | n + 1, h => by
    by_cases hp : p n = true
    · exact ⟨n, by omega, hp⟩
    · rw [ct_f (by simpa using hp)] at h
      obtain ⟨j, h1, h2⟩ := ct_pos h
      exact ⟨j, by omega, h2⟩
theorem pos_ct {p : Nat → Bool} {n j : Nat} (hj : j < n) (hp : p j = true) : 0 < ct p n := by
  have h1 := ct_mono p (show j + 1 ≤ n by omega)
  rw [ct_t hp] at h1
  omega
/-- what the one list holds the other holds -/
theorem Pm.mem {q p : Nat → Nat} {m : Nat} (h : Pm q p m) {j : Nat} (hj : j < m) : ∃ i, i < m ∧ q i = p j := by
  have h1 := h.1 (fun x => decide (x = p j))
  have h2 : 0 < ct (fun i => decide (q i = p j)) m := by
    rw [h1]
    exact pos_ct hj (decide_eq_true rfl)
  obtain ⟨i, h3, h4⟩ := ct_pos h2
  exact ⟨i, h3, of_decide_eq_true h4⟩
theorem Pm.sym {q p : Nat → Nat} {m : Nat} (h : Pm q p m) : Pm p q m := ⟨fun g => (h.1 g).symm, fun f => (h.2 f).symm⟩
end PU2
end
section
/-! Pure rows: groups of a sorted list, and the same said of the rows themselves. -/
section PU3
/-- a group begins at i; row r is the first of its group -/
def sg (T : Nat → Nat → Int64) (c : Nat) (q : Nat → Nat) (i : Nat) : Bool := decide (i = 0) || !decide (T (q i) c = T (q (i - 1)) c)
def isF (P : Nat → Bool) (T : Nat → Nat → Int64) (c r : Nat) : Bool := P r && al (fun t => !(P t && decide (T t c = T r c))) r
/-- q is the list of the chosen rows below n, sorted by column c, the least first -/
def Gr (P : Nat → Bool) (T : Nat → Nat → Int64) (c n : Nat) (q : Nat → Nat) : Prop := (∃ p, En p P n ∧ Pm q p (ct P n)) ∧ Sd T c false q (ct P n)
theorem pm_row {P : Nat → Bool} {n : Nat} {q : Nat → Nat} (h : ∃ p, En p P n ∧ Pm q p (ct P n)) {j : Nat} (hj : j < ct P n) : q j < n ∧ P (q j) = true := by
  obtain ⟨p, h1, h2⟩ := h
  obtain ⟨i, hi, e⟩ := h2.sym.mem hj
  obtain ⟨a, b, -⟩ := en_inv h1 i hi
  rw [← e]
  exact ⟨a, b⟩
theorem pm_of {P : Nat → Bool} {n : Nat} {q : Nat → Nat} (h : ∃ p, En p P n ∧ Pm q p (ct P n)) {r : Nat} (hr : r < n) (hP : P r = true) : ∃ j, j < ct P n ∧ q j = r := by
  obtain ⟨p, h1, h2⟩ := h
  have h3 := ct_mono P (show r + 1 ≤ n by omega)
  rw [ct_t hP] at h3
  obtain ⟨j, hj, e⟩ := h2.mem (show ct P r < ct P n by omega)
  exact ⟨j, hj, e.trans (h1 r hr hP)⟩
theorem pm_ct {P : Nat → Bool} {n : Nat} {q : Nat → Nat} (h : ∃ p, En p P n ∧ Pm q p (ct P n)) (g : Nat → Bool) : ct (fun t => P t && g t) n = ct (fun j => g (q j)) (ct P n) := by
  obtain ⟨p, h1, h2⟩ := h
  rw [ct_tr h1 g (Nat.le_refl n), h2.1 g]
theorem pm_sm {P : Nat → Bool} {n : Nat} {q : Nat → Nat} (h : ∃ p, En p P n ∧ Pm q p (ct P n)) (f : Nat → Int64) : sm (fun t => if P t then f t else 0) n = sm (fun j => f (q j)) (ct P n) := by
  obtain ⟨p, h1, h2⟩ := h
  rw [sm_tr h1 f (Nat.le_refl n), h2.2 f]
theorem Sd.le {T : Nat → Nat → Int64} {c : Nat} {q : Nat → Nat} {m i j : Nat} (hs : Sd T c false q m) (hij : i ≤ j) (hj : j < m) : (T (q i) c).toInt ≤ (T (q j) c).toInt := by
  by_cases e : i = j
  · rw [e]; exact Int.le_refl _
  · have h := hs i j (by omega) hj
    rw [bfb_iff] at h
    rcases h with h | ⟨h, -⟩
    · simp only [bef, Bool.false_eq_true, if_false, decide_eq_true_eq, Int64.lt_iff_toInt_lt] at h
      omega
    · rw [h]; exact Int.le_refl _
theorem sg_f {T : Nat → Nat → Int64} {c : Nat} {q : Nat → Nat} {i : Nat} (h : sg T c q i = false) : i ≠ 0 ∧ T (q i) c = T (q (i - 1)) c := by
  simpa [sg] using h
theorem sg_t {T : Nat → Nat → Int64} {c : Nat} {q : Nat → Nat} {i : Nat} (h : sg T c q i = true) : i = 0 ∨ T (q i) c ≠ T (q (i - 1)) c := by
  simpa [sg] using h
theorem isF_iff {P : Nat → Bool} {T : Nat → Nat → Int64} {c r : Nat} : isF P T c r = true ↔ P r = true ∧ ∀ t, t < r → P t = true → T t c ≠ T r c := by
  unfold isF
  rw [Bool.and_eq_true, al_iff]
  refine and_congr_right fun _ => ⟨fun h t ht hP e => ?_, fun h t ht => ?_⟩
  · have h1 := h t ht
    simp [hP, e] at h1
  · cases hP : P t
    · rfl
    · simp [h t ht hP]
theorem Gr.first {P : Nat → Bool} {T : Nat → Nat → Int64} {c n : Nat} {q : Nat → Nat} (h : Gr P T c n q) {i : Nat} (hi : i < ct P n) : sg T c q i = isF P T c (q i) := by
  obtain ⟨hm, hs⟩ := h
  obtain ⟨hqn, hqP⟩ := pm_row hm hi
  cases e : sg T c q i
  · obtain ⟨h0, he⟩ := sg_f e
    cases e2 : isF P T c (q i)
    · rfl
    · exfalso
      rw [isF_iff] at e2
      have h1 := hs (i - 1) i (by omega) hi
      rw [bfb_iff, he, bef_irr] at h1
      rcases h1 with h1 | ⟨-, h1⟩
      · cases h1
      · exact e2.2 _ h1 (pm_row hm (show i - 1 < ct P n by omega)).2 he.symm
  · symm
    rw [isF_iff]
    refine ⟨hqP, fun t ht hPt et => ?_⟩
    obtain ⟨j, hj, ej⟩ := pm_of hm (show t < n by omega) hPt
    have h1 : bfb T c false (q j) (q i) = true := by
      rw [bfb_iff, ej]
      exact Or.inr ⟨et, ht⟩
    have hji : j < i := by
      apply Classical.byContradiction
      intro hn
      by_cases e1 : j = i
      · rw [e1, bfb_irr] at h1; cases h1
      · have h2 := bfb_asym (hs i j (by omega) hj)
        rw [h2] at h1; cases h1
    rcases sg_t e with e1 | e1
    · omega
    · have h2 := hs.le (show j ≤ i - 1 by omega) (by omega)
      have h3 := hs.le (show i - 1 ≤ i by omega) hi
      rw [ej, et] at h2
      exact e1 (Int64.toInt_inj.mp (by omega))
/-- as many groups by the one count as by the other -/
theorem Gr.count {P : Nat → Bool} {T : Nat → Nat → Int64} {c n : Nat} {q : Nat → Nat} (h : Gr P T c n q) : ct (sg T c q) (ct P n) = ct (isF P T c) n := by
  have e1 : ct (sg T c q) (ct P n) = ct (fun j => isF P T c (q j)) (ct P n) := ct_congr fun j hj => h.first hj
  rw [e1, ← pm_ct h.1 (isF P T c)]
  refine ct_congr fun t _ => ?_
  cases e : isF P T c t
  · exact Bool.and_false _
  · rw [(isF_iff.mp e).1]; rfl
theorem ct_at {p : Nat → Bool} : ∀ {n j : Nat}, j < ct p n → ∃ i, i < n ∧ p i = true ∧ ct p i = j
  | 0, j, h => absurd h (Nat.not_lt_zero j)
  | n + 1, j, h => by
    by_cases hp : p n = true
    · rw [ct_t hp] at h
      by_cases h1 : j < ct p n
      · obtain ⟨i, a, b⟩ := ct_at h1
        exact ⟨i, by omega, b⟩
      · exact ⟨n, by omega, hp, by omega⟩
    · rw [ct_f (by simpa using hp)] at h
      obtain ⟨i, a, b⟩ := ct_at h
      exact ⟨i, by omega, b⟩
theorem ct_lt {p : Nat → Bool} {n i : Nat} (hi : i < n) (hp : p i = true) : ct p i < ct p n := by
  have h1 := ct_mono p (show i + 1 ≤ n by omega)
  rw [ct_t hp] at h1
  omega
theorem ct_inj {p : Nat → Bool} {i j : Nat} (hi : p i = true) (hj : p j = true) (e : ct p i = ct p j) : i = j := by
  apply Classical.byContradiction
  intro hn
  rcases Nat.lt_or_gt_of_ne hn with h | h
  · have := ct_lt h hi; omega
  · have := ct_lt h hj; omega
/-- the group that begins at i is the k-th by its cell -/
theorem Gr.less {P : Nat → Bool} {T : Nat → Nat → Int64} {c n : Nat} {q : Nat → Nat} (h : Gr P T c n q) {i : Nat} (hi : i < ct P n) (hg : sg T c q i = true) : ct (fun t => isF P T c t && decide (T t c < T (q i) c)) n = ct (sg T c q) i := by
  have e0 : ct (fun t => isF P T c t && decide (T t c < T (q i) c)) n = ct (fun t => P t && (isF P T c t && decide (T t c < T (q i) c))) n := by
    refine ct_congr fun t _ => ?_
    cases e : isF P T c t
    · exact (Bool.and_false _).symm
    · rw [(isF_iff.mp e).1]; rfl
  rw [e0, pm_ct h.1 (fun t => isF P T c t && decide (T t c < T (q i) c))]
  have hs := h.2
  rw [ct_none (a := i) (by omega) (fun j h1 h2 => ?_)]
  · refine ct_congr fun j hj => ?_
    show (isF P T c (q j) && decide (T (q j) c < T (q i) c)) = _
    rw [← h.first (show j < ct P n by omega)]
    have h1 : T (q j) c < T (q i) c := by
      rcases sg_t hg with e | e
      · omega
      · have h2 := hs.le (show j ≤ i - 1 by omega) (by omega)
        have h3 := hs.le (show i - 1 ≤ i by omega) hi
        rw [Int64.lt_iff_toInt_lt]
        have h4 : (T (q i) c).toInt ≠ (T (q (i - 1)) c).toInt := fun z => e (Int64.toInt_inj.mp z)
        omega
    rw [decide_eq_true h1, Bool.and_true]
  · have h3 := hs.le h1 h2
    show (isF P T c (q j) && decide (T (q j) c < T (q i) c)) = false
    rw [decide_eq_false (by rw [Int64.lt_iff_toInt_lt]; omega), Bool.and_false]
/-- which places hold the group -/
theorem Gr.win {P : Nat → Bool} {T : Nat → Nat → Int64} {c n : Nat} {q : Nat → Nat} (h : Gr P T c n q) {a b : Nat} (hab : a < b) (hb : b ≤ ct P n) (hg : sg T c q a = true) (hno : ∀ j, a < j → j < b → sg T c q j = false) (hend : b = ct P n ∨ sg T c q b = true) {j : Nat} (hj : j < ct P n) : T (q j) c = T (q a) c ↔ a ≤ j ∧ j < b := by
  have hs := h.2
  have heq : ∀ d, a + d < b → T (q (a + d)) c = T (q a) c := by
    intro d
    induction d with
    | zero => intro _; rfl
    | succ d ih =>
      intro hd
      have h1 := (sg_f (hno (a + (d + 1)) (by omega) hd)).2
      rw [h1, show a + (d + 1) - 1 = a + d by omega]
      exact ih (by omega)
  constructor
  · intro e
    refine ⟨Nat.le_of_not_lt fun h1 => ?_, Nat.lt_of_not_le fun h1 => ?_⟩
    · rcases sg_t hg with e1 | e1
      · omega
      · have h2 := hs.le (show j ≤ a - 1 by omega) (by omega)
        have h3 := hs.le (show a - 1 ≤ a by omega) (by omega)
        rw [e] at h2
        exact e1 (Int64.toInt_inj.mp (by omega))
    · rcases hend with e1 | e1
      · omega
      · rcases sg_t e1 with e2 | e2
        · omega
        · have h2 := hs.le h1 hj
          have h3 := hs.le (show b - 1 ≤ b by omega) (by omega)
          have h4 := heq (b - 1 - a) (by omega)
          rw [show a + (b - 1 - a) = b - 1 by omega] at h4
          rw [e, ← h4] at h2
          exact e2 (Int64.toInt_inj.mp (by omega))
  · intro ⟨h1, h2⟩
    have h3 := heq (j - a) (by omega)
    rwa [show a + (j - a) = j by omega] at h3
theorem sm_win {f : Nat → Int64} {p : Nat → Bool} {a b : Nat} (hab : a ≤ b) : ∀ {m : Nat}, b ≤ m → (∀ j, j < m → (p j = true ↔ a ≤ j ∧ j < b)) → sm (fun j => if p j then f j else 0) m = sm (fun j => f (a + j)) (b - a) := by
  intro m
  induction m generalizing b with
  | zero => intro hb _; rw [show b - a = 0 by omega]; rfl
  | succ m ih =>
    intro hb h
    by_cases hbm : b = m + 1
    · by_cases ham : a = m + 1
      · have e := ih (b := a) (Nat.le_refl a)
        clear e
        rw [show b - a = 0 by omega]
        have e0 : ∀ j, j < m + 1 → (if p j then f j else 0) = (0 : Int64) := fun j hj => by
          rw [if_neg]
          intro z
          have := (h j hj).mp z
          omega
        have e1 : ∀ d, d ≤ m + 1 → sm (fun j => if p j then f j else 0) d = 0 := by
          intro d
          induction d with
          | zero => intro _; rfl
          | succ d ih2 => intro hd; rw [sm, ih2 (by omega), e0 d (by omega)]; rfl
        exact e1 (m + 1) (Nat.le_refl _)
      · subst hbm
        have e1 := ih (b := m) (by omega) (Nat.le_refl m) (fun j hj => by have := h j (by omega); rw [this]; omega)
        rw [sm, e1, if_pos ((h m (by omega)).mpr ⟨by omega, by omega⟩), show m + 1 - a = (m - a) + 1 by omega, sm, show a + (m - a) = m by omega]
    · have e1 := ih hab (by omega) (fun j hj => h j (by omega))
      rw [sm, e1, if_neg (fun z => by have := (h m (by omega)).mp z; omega), Int64.add_zero]
theorem ct_win {p : Nat → Bool} {a b m : Nat} (hab : a ≤ b) (hb : b ≤ m) (h : ∀ j, j < m → (p j = true ↔ a ≤ j ∧ j < b)) : ct p m = b - a := by
  have hf : ∀ j, j < m → ¬ (a ≤ j ∧ j < b) → p j = false := fun j hj hn => by
    cases e : p j
    · rfl
    · exact absurd ((h j hj).mp e) hn
  rw [ct_none (a := b) hb (fun j h1 h2 => hf j h2 (by omega))]
  have e0 : ct p a = 0 := by rw [ct_none (a := 0) (Nat.zero_le a) (fun j _ h2 => hf j (by omega) (by omega))]; rfl
  have e1 : ∀ d, a + d ≤ b → ct p (a + d) = d := by
    intro d
    induction d with
    | zero => intro _; exact e0
    | succ d ih => intro hd; rw [← Nat.add_assoc, ct_t ((h (a + d) (by omega)).mpr ⟨by omega, by omega⟩), ih (by omega)]
  have := e1 (b - a) (by omega)
  rwa [show a + (b - a) = b by omega] at this
/-- the greatest (d = true) or the least of f at a .. a + j -/
def bnd (f : Nat → Int64) (d : Bool) : Nat → Int64
  | 0 => f 0
  | j + 1 => if bef d (f (j + 1)) (bnd f d j) then f (j + 1) else bnd f d j
theorem bnd_in (f : Nat → Int64) (d : Bool) : ∀ j, ∃ i, i ≤ j ∧ bnd f d j = f i
  | 0 => ⟨0, Nat.le_refl _, rfl⟩
  | j + 1 => by
    rw [bnd]
    split
    · exact ⟨j + 1, Nat.le_refl _, rfl⟩
    · obtain ⟨i, h1, h2⟩ := bnd_in f d j
      exact ⟨i, by omega, h2⟩
theorem bnd_ge (f : Nat → Int64) (d : Bool) : ∀ {j i : Nat}, i ≤ j → bef d (f i) (bnd f d j) = false
  | 0, i, h => by rw [Nat.le_zero.mp h]; exact bef_irr d _
  | j + 1, i, h => by
    rw [bnd]
    by_cases e : bef d (f (j + 1)) (bnd f d j) = true
    · rw [if_pos e]
      by_cases h1 : i = j + 1
      · rw [h1]; exact bef_irr d _
      · have h2 := bnd_ge f d (show i ≤ j by omega)
        cases e2 : bef d (f i) (f (j + 1))
        · rfl
        · rw [bef_tr e2 e] at h2; cases h2
    · rw [if_neg e]
      by_cases h1 : i = j + 1
      · rw [h1]; simpa using e
      · exact bnd_ge f d (show i ≤ j by omega)
/-- the best of a set is one -/
theorem best_eq {d : Bool} {x y : Int64} (h1 : bef d x y = false) (h2 : bef d y x = false) : x = y := by
  rcases bef_tri d x y with e | e | e
  · rw [h1] at e; cases e
  · exact e
  · rw [h2] at e; cases e
theorem bnd_t {f : Nat → Int64} {d : Bool} {j : Nat} (h : bef d (f (j + 1)) (bnd f d j) = true) : bnd f d (j + 1) = f (j + 1) := by rw [bnd, if_pos h]
theorem bnd_f {f : Nat → Int64} {d : Bool} {j : Nat} (h : bef d (f (j + 1)) (bnd f d j) = false) : bnd f d (j + 1) = bnd f d j := by rw [bnd, if_neg (by rw [h]; decide)]
theorem bef_Tt {x y : Int64} (h : y < x) : bef true x y = true := decide_eq_true h
theorem bef_Tf {x y : Int64} (h : ¬ y < x) : bef true x y = false := decide_eq_false h
theorem bef_Ft {x y : Int64} (h : x < y) : bef false x y = true := decide_eq_true h
theorem bef_Ff {x y : Int64} (h : ¬ x < y) : bef false x y = false := decide_eq_false h
theorem pm_lt {q p : Nat → Nat} {m M : Nat} (h : Pm q p m) (hp : ∀ j, j < m → p j < M) : ∀ j, j < m → q j < M := by
  intro j hj
  obtain ⟨i, hi, e⟩ := h.sym.mem hj
  rw [← e]
  exact hp i hi
theorem hm_s {p : Nat → Prop} {h i : Nat} (hm : ∀ j, h ≤ j → j < i → p j) (h1 : p (h - 1)) : ∀ j, h - 1 ≤ j → j < i → p j := by
  intro j h2 h3
  by_cases e : j = h - 1
  · rw [e]; exact h1
  · exact hm j (by omega) h3
theorem Sd.less {T : Nat → Nat → Int64} {c : Nat} {d : Bool} {q : Nat → Nat} {m i : Nat} (h : Sd T c d q i) (hm : m ≤ i) : Sd T c d q m := fun a b h1 h2 => h a b h1 (by omega)
/-- where group x begins, or -1; where the group ends -/
def gsF (p : Nat → Bool) (x : Int32) (i : Nat) : Nat → Int32
  | 0 => -1
  | f + 1 => if p i && decide (nI (ct p i) = x) then nI i else gsF p x (i + 1) f
def gE (p : Nat → Bool) (i : Nat) : Nat → Nat
  | 0 => i
  | f + 1 => if p i then i else gE p (i + 1) f
theorem gsF_some {p : Nat → Bool} {a k : Nat} (hp : p a = true) (hk : ct p a = k) (hk2 : k < 2 ^ 31) : ∀ (f i : Nat), i ≤ a → a < i + f → gsF p (nI k) i f = nI a
  | 0, i, h1, h2 => by omega
  | f + 1, i, h1, h2 => by
    rw [gsF]
    by_cases e : i = a
    · subst e
      rw [if_pos (by rw [hp, hk, decide_eq_true rfl]; rfl)]
    · rw [if_neg]
      · exact gsF_some hp hk hk2 f (i + 1) (by omega) (by omega)
      · intro h
        rw [Bool.and_eq_true, decide_eq_true_eq] at h
        have h3 := ct_lt (show i < a by omega) h.1
        have h4 := (nI_eq (by omega) hk2).mp h.2
        omega
theorem gsF_none {p : Nat → Bool} {x : Int32} : ∀ (f i : Nat), (∀ j, i ≤ j → j < i + f → p j = true → nI (ct p j) ≠ x) → gsF p x i f = -1
  | 0, i, _ => rfl
  | f + 1, i, h => by
    rw [gsF, if_neg]
    · exact gsF_none f (i + 1) fun j h1 h2 h3 => h j (by omega) (by omega) h3
    · intro h1
      rw [Bool.and_eq_true, decide_eq_true_eq] at h1
      exact h i (by omega) (by omega) h1.1 h1.2
theorem gE_spec {p : Nat → Bool} : ∀ (f i : Nat), i ≤ gE p i f ∧ gE p i f ≤ i + f ∧ (∀ j, i ≤ j → j < gE p i f → p j = false) ∧ (gE p i f = i + f ∨ p (gE p i f) = true)
  | 0, i => ⟨Nat.le_refl _, Nat.le_refl _, fun j h1 h2 => by simp [gE] at h2; omega, Or.inl rfl⟩
  | f + 1, i => by
    rw [gE]
    by_cases hp : p i = true
    · rw [if_pos hp]
      exact ⟨Nat.le_refl _, by omega, fun j h1 h2 => by omega, Or.inr hp⟩
    · rw [if_neg hp]
      obtain ⟨h1, h2, h3, h4⟩ := gE_spec (p := p) f (i + 1)
      refine ⟨by omega, by omega, fun j h5 h6 => ?_, ?_⟩
      · by_cases e : j = i
        · rw [e]; simpa using hp
        · exact h3 j (by omega) h6
      · rcases h4 with h4 | h4
        · exact Or.inl (by omega)
        · exact Or.inr h4
theorem sn_end {f : Nat → Nat → Bool} {t m : Nat} (h : t = m ∨ (t = 1 ∧ m = 0)) : nI (sn (fun t => ct (f t) t) t) = nI (sn (fun t => ct (f t) t) m) := by
  rcases h with h | ⟨h, h2⟩
  · rw [h]
  · rw [h, h2]; rfl
end PU3
end
section
/-! Pure rows: a row appended, rows taken away. -/
section PU4
def apT (T : Nat → Nat → Int64) (n : Nat) (a b c : Int32) (d : Int64) : Nat → Nat → Int64 := tS (tS (tS (tS T n 0 (Int32.toInt64 a)) n 1 (Int32.toInt64 b)) n 2 (Int32.toInt64 c)) n 3 d
/-- the table when the first r rows are gone through: those that stay are moved up -/
def pT (P : Nat → Bool) (T : Nat → Nat → Int64) : Nat → Nat → Nat → Int64
  | 0 => T
  | r + 1 => if P r then pT P T r else mvR (pT P T r) r (r - ct P r) 4
theorem pT_t {P : Nat → Bool} {T : Nat → Nat → Int64} {r : Nat} (h : P r = true) : pT P T (r + 1) = pT P T r := by rw [pT, if_pos h]
theorem pT_f {P : Nat → Bool} {T : Nat → Nat → Int64} {r : Nat} (h : P r = false) : pT P T (r + 1) = mvR (pT P T r) r (r - ct P r) 4 := by rw [pT, if_neg (by rw [h]; decide)]
theorem pu_f1 {q : Nat → Nat} {P : Nat → Bool} {n r : Nat} (_ : En q P n) (hr : r < n) (h : ct P n ≤ ct P r) : P r = false := by
  cases e : P r
  · rfl
  · have := ct_lt hr e; omega
theorem pu_f2 {q : Nat → Nat} {P : Nat → Bool} {n r : Nat} (hE : En q P n) (hr : r < n) (h : ¬ q (ct P r) = r) : P r = false := by
  cases e : P r
  · rfl
  · exact absurd (hE r hr e) h
theorem pu_t {q : Nat → Nat} {P : Nat → Bool} {n r : Nat} (hE : En q P n) (h1 : ct P r < ct P n) (h : q (ct P r) = r) : P r = true := by
  have := (en_inv hE _ h1).2.1
  rwa [h] at this
end PU4
end
section
/-! Pure rows for the walks of the model. -/
section PU5
def isC (x : Int32) : Bool := !decide (x < 0) && !decide (nI 3 < x)
theorem isC_n {c : Nat} (h : c < 4) : isC (nI c) = true := by
  unfold isC
  rw [decide_eq_false (nI_pos (by omega)), decide_eq_false (nI_nlt (by omega) (by omega))]
  rfl
theorem isC_of {x : Int32} (h : isC x = true) : ∃ c, c < 4 ∧ x = nI c := by
  unfold isC at h
  rw [Bool.and_eq_true, Bool.not_eq_true', Bool.not_eq_true', decide_eq_false_iff_not, decide_eq_false_iff_not] at h
  rcases pk_ix x (n := 4) (by omega) with h1 | h1 | h1
  · exact absurd h1 h.1
  · exfalso
    apply h.2
    rw [Int32.lt_iff_toInt_lt, nI_toInt (by omega)]
    rw [Int32.le_iff_toInt_le, nI_toInt (by omega)] at h1
    omega
  · exact h1
theorem bad_no {y z : Int32} (hy : y < 0 ∨ z ≤ y) (h1 : ¬ y < 0) (h2 : y < z) : False := by
  rcases hy with h | h
  · exact h1 h
  · rw [Int32.lt_iff_toInt_lt] at h2
    rw [Int32.le_iff_toInt_le] at h
    omega
theorem bad_le {y z : Int32} (hy : y < 0 ∨ z < y) (h1 : ¬ y < 0) (h2 : y ≤ z) : False := by
  rcases hy with h | h
  · exact h1 h
  · rw [Int32.le_iff_toInt_le] at h2
    rw [Int32.lt_iff_toInt_lt] at h
    omega
theorem al2 {p : Nat → Bool} {j : Nat} {x y : Bool} (h1 : al p j = x) (h2 : p j = y) : al p (j + 1) = (x && y) := by rw [al, h1, h2]
theorem lt_of_ne_le {t r : Nat} (h : t ≤ r) (hn : t ≠ r) : t + 1 ≤ r := by omega
theorem mnj_t {x : Nat → Int64} {j : Nat} (h : x j < mn x (j - 1)) : x j = mn x j := by
  cases j with
  | zero => rfl
  | succ j => rw [mn, if_pos (show x (j + 1) < mn x j from h)]
theorem mnj_f {x : Nat → Int64} {j : Nat} (h : ¬ x j < mn x (j - 1)) : mn x (j - 1) = mn x j := by
  cases j with
  | zero => rfl
  | succ j => rw [mn, if_neg (show ¬ x (j + 1) < mn x j from h)]; rfl
theorem mxj_t {x : Nat → Int64} {j : Nat} (h : mx x (j - 1) < x j) : x j = mx x j := by
  cases j with
  | zero => rfl
  | succ j => rw [mx, if_neg (Int64.lt_asymm (show mx x j < x (j + 1) from h))]
theorem mxj_f {x : Nat → Int64} {j : Nat} (h : ¬ mx x (j - 1) < x j) : mx x (j - 1) = mx x j := by
  cases j with
  | zero => rfl
  | succ j =>
    have h1 : ¬ mx x j < x (j + 1) := h
    show mx x j = _
    rw [mx]
    by_cases h2 : x (j + 1) < mx x j
    · rw [if_pos h2]
    · rw [if_neg h2]
      rw [Int64.lt_iff_toInt_lt] at h1 h2
      exact Int64.toInt_inj.mp (by omega)
def cR (o : Nat) (lo hi v : Int64) : Bool := if o = 2 then !decide (v < lo) && !decide (hi < v) else hO o lo v || hO o hi v
def rbk (T : Nat → Nat → Int64) (n : Nat) (kc ko : Nat → Nat) (kv : Nat → Int64) (k b : Nat) : Bool := if b < n / 16 then al (fun i => cR (ko i) (mn (xb T b (kc i)) 15) (mx (xb T b (kc i)) 15) (kv i)) k else true
theorem rbk_full {T : Nat → Nat → Int64} {n : Nat} {kc ko : Nat → Nat} {kv : Nat → Int64} {k b j : Nat} (h : 16 * b + 16 ≤ n ∨ j = 0) (hj : j = k) : al (fun i => cR (ko i) (mn (xb T b (kc i)) 15) (mx (xb T b (kc i)) 15) (kv i)) j = rbk T n kc ko kv k b := by
  subst hj
  unfold rbk
  by_cases hb : b < n / 16
  · rw [if_pos hb]
  · rw [if_neg hb, show j = 0 by omega]; rfl
theorem rbk_part {T : Nat → Nat → Int64} {n : Nat} {kc ko : Nat → Nat} {kv : Nat → Int64} {k b j : Nat} (h : n < 16 * b + 16) (hj : j = 0) : al (fun i => cR (ko i) (mn (xb T b (kc i)) 15) (mx (xb T b (kc i)) 15) (kv i)) j = rbk T n kc ko kv k b := by
  subst hj
  unfold rbk
  rw [if_neg (by omega)]; rfl
theorem wd_stop {x r : Int64} {j : Nat} (h1 : uN r = uN x / 2 ^ j) (h2 : j ≤ wd x) (h3 : r = 0) : wd x = j := by
  subst h3
  have h4 : uN x < 2 ^ j := Nat.lt_of_div_eq_zero (Nat.two_pow_pos j) h1.symm
  have h5 : wd x ≤ j := wN_le.mpr h4
  omega
theorem wd_next {x r : Int64} {j : Nat} (h1 : uN r = uN x / 2 ^ j) (h3 : ¬ r = 0) : j + 1 ≤ wd x := by
  apply Nat.succ_le_of_lt
  apply Nat.lt_of_not_le
  intro h4
  have h5 : uN x < 2 ^ j := wN_le.mp h4
  rw [Nat.div_eq_of_lt h5] at h1
  exact h3 (uN_inj (h1.trans rfl))
/-- what a way needs; the best way among the first -/
def ndz (x : Nat → Int64) (cb w : Nat) : Nat := if w = 0 then 16 * cb else if w = 3 then zO x cb else if w = 1 then zR x cb else zW x cb
def bW (x : Nat → Int64) (cb : Nat) : Nat → Nat
  | 0 => 0
  | k + 1 => if ndz x cb (k + 1) < ndz x cb (bW x cb k) then k + 1 else bW x cb k
theorem bW_le (x : Nat → Int64) (cb : Nat) : ∀ k, bW x cb k ≤ k
  | 0 => Nat.le_refl 0
  | k + 1 => by have := bW_le x cb k; rw [bW]; split <;> omega
theorem ndz_le (x : Nat → Int64) (c w : Nat) : ndz x (cb c) w ≤ 10000 := by
  have h1 := zR_le x c
  have h2 := zW_le x c
  have h3 := zO_le x c
  have h4 := cb_le c
  unfold ndz
  split
  · omega
  · split
    · omega
    · split <;> omega
theorem rns_eq (x : Nat → Int64) : ct (fun j => decide (j = 0) || !decide (x (j - 1) = x j)) 16 = rns x := by
  have key : ∀ m, ct (fun j => decide (j = 0) || !decide (x (j - 1) = x j)) (m + 1) = 1 + ct (fun j => !decide (x (j + 1) = x j)) m := by
    intro m
    induction m with
    | zero => rfl
    | succ m ih =>
      rw [ct, ih, ct]
      have e : (decide (m + 1 = 0) || !decide (x (m + 1 - 1) = x (m + 1))) = !decide (x (m + 1) = x m) := by
        rw [decide_eq_false (by omega), Bool.false_or, show m + 1 - 1 = m by omega]
        by_cases h : x m = x (m + 1)
        · rw [decide_eq_true h, decide_eq_true h.symm]
        · rw [decide_eq_false h, decide_eq_false (fun q => h q.symm)]
      rw [e, Nat.add_assoc]
  exact key 15
theorem wds_eq (x : Nat → Int64) : ct (fun j => al (fun q => !decide (x q = x j)) j) 16 = wds x := by
  unfold wds sb
  exact ct_congr fun j _ => (Bool.not_not _).symm
theorem bW_pck (x : Nat → Int64) (cb : Nat) : bW x cb 3 = (pck x cb).1 ∧ ndz x cb (bW x cb 3) = (pck x cb).2 := by
  have key : ∀ (a : Nat × Nat) (w : Nat), ndz x cb a.1 = a.2 → (if ndz x cb w < ndz x cb a.1 then w else a.1) = (stp a w (ndz x cb w)).1 ∧ ndz x cb (if ndz x cb w < ndz x cb a.1 then w else a.1) = (stp a w (ndz x cb w)).2 := by
    intro a w h
    unfold stp
    rw [h]
    by_cases h1 : ndz x cb w < a.2
    · rw [if_pos h1, if_pos h1]; exact ⟨rfl, rfl⟩
    · rw [if_neg h1, if_neg h1]; exact ⟨rfl, h⟩
  have e1 := key (0, 16 * cb) 1 rfl
  have e2 := key (stp (0, 16 * cb) 1 (ndz x cb 1)) 2 (by rw [← e1.1]; exact e1.2)
  have e3 := key (stp (stp (0, 16 * cb) 1 (ndz x cb 1)) 2 (ndz x cb 2)) 3 (by rw [← e2.1]; exact e2.2)
  have b1 : bW x cb 1 = (stp (0, 16 * cb) 1 (ndz x cb 1)).1 := e1.1
  have b2 : bW x cb 2 = (stp (stp (0, 16 * cb) 1 (ndz x cb 1)) 2 (ndz x cb 2)).1 := by rw [bW, b1]; exact e2.1
  have b3 : bW x cb 3 = (stp (stp (stp (0, 16 * cb) 1 (ndz x cb 1)) 2 (ndz x cb 2)) 3 (ndz x cb 3)).1 := by rw [bW, b2]; exact e3.1
  refine ⟨b3, ?_⟩
  rw [b3, ← e3.1]
  exact e3.2
/-- the bound as the model has it -/
def bR (P : Nat → Bool) (f : Nat → Int64) (d : Bool) : Nat → Int64
  | 0 => if d then -9223372036854775808 else 9223372036854775807
  | r + 1 => if P r && bef d (f r) (bR P f d r) then f r else bR P f d r
theorem bR_t {P : Nat → Bool} {f : Nat → Int64} {d : Bool} {r : Nat} (h1 : P r = true) (h2 : bef d (f r) (bR P f d r) = true) : f r = bR P f d (r + 1) := by rw [bR, if_pos (by rw [h1, h2]; rfl)]
theorem bR_f {P : Nat → Bool} {f : Nat → Int64} {d : Bool} {r : Nat} (_ : P r = true) (h2 : bef d (f r) (bR P f d r) = false) : bR P f d r = bR P f d (r + 1) := by rw [bR, if_neg (by rw [h2, Bool.and_false]; decide)]
theorem bR_n {P : Nat → Bool} {f : Nat → Int64} {d : Bool} {r : Nat} (h1 : P r = false) : bR P f d r = bR P f d (r + 1) := by rw [bR, if_neg (by rw [h1, Bool.false_and]; decide)]
theorem bT_t {d : Bool} {x y : Int64} (hd : d = true) (h : y < x) : bef d x y = true := by rw [hd]; exact bef_Tt h
theorem bT_f {d : Bool} {x y : Int64} (hd : d = true) (h : ¬ y < x) : bef d x y = false := by rw [hd]; exact bef_Tf h
theorem bF_t {d : Bool} {x y : Int64} (hd : d = false) (h : x < y) : bef d x y = true := by rw [hd]; exact bef_Ft h
theorem bF_f {d : Bool} {x y : Int64} (hd : d = false) (h : ¬ x < y) : bef d x y = false := by rw [hd]; exact bef_Ff h
theorem if2 {x y z : Bool} {p : Nat → Bool} {j : Nat} (h1 : (x && al p j) = y) (h2 : p j = z) : (x && al p (j + 1)) = (y && z) := by rw [al, ← Bool.and_assoc, h1, h2]
theorem fo_t {r t : Nat} (h : t = r) : t = if r < t + 1 then r else 0 := by rw [if_pos (by omega)]; exact h
theorem fo_f {r t : Nat} (h : ¬ r = t) : (if r < t then r else 0) = if r < t + 1 then r else 0 := by
  by_cases h1 : r < t
  · rw [if_pos h1, if_pos (by omega)]
  · rw [if_neg h1, if_neg (by omega)]
/-- the best of those for which K holds, beginning with the first -/
def gB (K : Nat → Bool) (f : Nat → Int64) (d : Bool) : Nat → Int64
  | 0 => f 0
  | j + 1 => if K j && bef d (f j) (gB K f d j) then f j else gB K f d j
theorem gB_t {K : Nat → Bool} {f : Nat → Int64} {d : Bool} {j : Nat} (h1 : K j = true) (h2 : bef d (f j) (gB K f d j) = true) : f j = gB K f d (j + 1) := by rw [gB, if_pos (by rw [h1, h2]; rfl)]
theorem gB_f {K : Nat → Bool} {f : Nat → Int64} {d : Bool} {j : Nat} (_ : K j = true) (h2 : bef d (f j) (gB K f d j) = false) : gB K f d j = gB K f d (j + 1) := by rw [gB, if_neg (by rw [h2, Bool.and_false]; decide)]
theorem gB_n {K : Nat → Bool} {f : Nat → Int64} {d : Bool} {j : Nat} (h1 : K j = false) : gB K f d j = gB K f d (j + 1) := by rw [gB, if_neg (by rw [h1, Bool.false_and]; decide)]
theorem sm_y {K : Nat → Bool} {f : Nat → Int64} {j : Nat} (h : K j = true) : sm (fun j => if K j then f j else 0) j + f j = sm (fun j => if K j then f j else 0) (j + 1) := by rw [sm, if_pos h]
theorem sm_n {K : Nat → Bool} {f : Nat → Int64} {j : Nat} (h : K j = false) : sm (fun j => if K j then f j else 0) j = sm (fun j => if K j then f j else 0) (j + 1) := by rw [sm, if_neg (by rw [h]; decide), Int64.add_zero]
theorem pr_n {P : Nat → Bool} {g : Nat → Nat → Bool} {t : Nat} (h : P t = false) : sn (fun t => if P t then ct (g t) t else 0) t + ct (g t) 0 = sn (fun t => if P t then ct (g t) t else 0) (t + 1) := by rw [sn, if_neg (by rw [h]; decide)]; rfl
theorem pr_y {P : Nat → Bool} {g : Nat → Nat → Bool} {t u : Nat} (h : P t = true ∨ u = 0) (hu : u = t) : sn (fun t => if P t then ct (g t) t else 0) t + ct (g t) u = sn (fun t => if P t then ct (g t) t else 0) (t + 1) := by
  subst hu
  rw [sn]
  by_cases e : P u = true
  · rw [if_pos e]
  · rw [if_neg e]
    rcases h with h | h
    · exact absurd h e
    · subst h; rfl
/-- rows not yet gone through stand as they stood -/
theorem pT_row {P : Nat → Bool} {T : Nat → Nat → Int64} : ∀ {r i : Nat}, r ≤ i → pT P T r i = T i
  | 0, i, _ => rfl
  | r + 1, i, h => by
    have ih := pT_row (P := P) (T := T) (r := r) (i := i) (by omega)
    by_cases hP : P r = true
    · rw [pT_t hP, ih]
    · rw [pT_f (by simpa using hP)]
      funext j
      show (if i = r - ct P r ∧ j < 4 then _ else pT P T r i j) = _
      rw [if_neg (by omega), ih]
theorem pT_ch {T : Nat → Nat → Int64} {kc ko : Nat → Nat} {kv : Nat → Int64} {k : Nat} (r : Nat) : ch (pT (ch T kc ko kv k) T r) kc ko kv k r = ch T kc ko kv k r := by
  unfold ch
  rw [show pT (fun r => al (fun i => hO (ko i) (T r (kc i)) (kv i)) k) T r r = T r from pT_row (Nat.le_refl r)]
end PU5
end
section
/-! Contracts of the hall: laid by program (wip/whole/gen.py). -/
set_option maxHeartbeats 4000000 in
set_option maxRecDepth 100000 in
theorem cX_spot (l : Launch) (r c : Nat)  : Met l yX0_spot (wA yX0_spot cX0_spot 2 (some .int)) (rN 0) (va_Pc [.int (nI r), .int (nI c)] (fun _ => True)) (vp_Si (fun z => z = nI (c * 128 + r))) 0 0 (fun _ => False) := by
  refine met_of RX0 rfl (by decide) (Nat.le_of_ble_eq_true rfl) (fun p e s m below meth cd ls E hr hlk _ hB hl => ?_)
  have hl : lv_has ls 2 [(0, .int (nI r)), (1, .int (nI c))] := hl
  refine lv_iload_n E.1 E.2.1 dX0_spot_0 rfl (lv_at hl 1 rfl) ?_
  refine lv_sipush (v := nI 128) E.1 E.2.1 dX0_spot_1 rfl ?_
  refine n_imul E dX0_spot_4 ?_
  refine lv_iload_n E.1 E.2.1 dX0_spot_5 rfl (lv_at hl 0 rfl) ?_
  refine n_iadd E dX0_spot_6 ?_
  exact e_i E hr hlk rfl dX0_spot_7
set_option maxHeartbeats 4000000 in
set_option maxRecDepth 100000 in
theorem cX_place (l : Launch) (b c : Nat)  : Met l yX0_place (wA yX0_place cX0_place 2 (some .int)) (rN 0) (va_Pc [.int (nI b), .int (nI c)] (fun _ => True)) (vp_Si (fun z => z = nI (b * 4 + c))) 0 0 (fun _ => False) := by
  refine met_of RX0 rfl (by decide) (Nat.le_of_ble_eq_true rfl) (fun p e s m below meth cd ls E hr hlk _ hB hl => ?_)
  have hl : lv_has ls 2 [(0, .int (nI b)), (1, .int (nI c))] := hl
  refine lv_iload_n E.1 E.2.1 dX0_place_0 rfl (lv_at hl 0 rfl) ?_
  refine lv_iconst (v := nI 4) E.1 E.2.1 dX0_place_1 rfl ?_
  refine n_imul E dX0_place_2 ?_
  refine lv_iload_n E.1 E.2.1 dX0_place_3 rfl (lv_at hl 1 rfl) ?_
  refine n_iadd E dX0_place_4 ?_
  exact e_i E hr hlk rfl dX0_place_5
set_option maxHeartbeats 4000000 in
set_option maxRecDepth 100000 in
theorem cX_fullBlocks (l : Launch) (D : va_G) (ad : Nat → Nat) (ca : Nat → ClassId) (T : Nat → Nat → Int64) (n : Nat) (kc ko : Nat → Nat) (kv : Nat → Int64) (k : Nat) (lo hi : Nat → Int64) (bw bb pk : Nat → Nat)  (hn : n ≤ 128) : Met l yX0_fullBlocks (wA yX0_fullBlocks cX0_fullBlocks 1 (some .int)) (rN 0) (va_Pc [.ref (ad 0)] (pW D c2 (tX ca) (wX ad ca T n kc ko kv k lo hi bw bb pk))) (vp_Si (fun z => z = nI (n / 16))) 0 0 (fun _ => False) := by
  refine met_of RX0 rfl (by decide) (Nat.le_of_ble_eq_true rfl) (fun p e s m below meth cd ls E hr hlk _ hB hl => ?_)
  obtain ⟨hP, hK⟩ := hB
  have hl : lv_has ls 1 [(0, .ref (ad 0))] := hl
  refine lv_aload_n E.1 E.2.1 dX0_fullBlocks_0 rfl (lv_at hl 0 rfl) ?_
  refine n_get E inX hK hP 0 rfl rfl 1 (by decide) flX_13 rfl rfl dX0_fullBlocks_1 ?_
  refine lv_bipush (v := nI 16) E.1 E.2.1 dX0_fullBlocks_4 rfl ?_
  refine n_idiv E (by omega) (by omega) (by omega) dX0_fullBlocks_6 ?_
  exact e_i E hr hlk rfl dX0_fullBlocks_7
set_option maxHeartbeats 4000000 in
set_option maxRecDepth 100000 in
theorem cX_startedBlocks (l : Launch) (D : va_G) (ad : Nat → Nat) (ca : Nat → ClassId) (T : Nat → Nat → Int64) (n : Nat) (kc ko : Nat → Nat) (kv : Nat → Int64) (k : Nat) (lo hi : Nat → Int64) (bw bb pk : Nat → Nat)  (hn : n ≤ 128) : Met l yX0_startedBlocks (wA yX0_startedBlocks cX0_startedBlocks 1 (some .int)) (rN 0) (va_Pc [.ref (ad 0)] (pW D c2 (tX ca) (wX ad ca T n kc ko kv k lo hi bw bb pk))) (vp_Si (fun z => z = nI ((n + 16 - 1) / 16))) 0 0 (fun _ => False) := by
  refine met_of RX0 rfl (by decide) (Nat.le_of_ble_eq_true rfl) (fun p e s m below meth cd ls E hr hlk _ hB hl => ?_)
  obtain ⟨hP, hK⟩ := hB
  have hl : lv_has ls 1 [(0, .ref (ad 0))] := hl
  refine lv_aload_n E.1 E.2.1 dX0_startedBlocks_0 rfl (lv_at hl 0 rfl) ?_
  refine n_get E inX hK hP 0 rfl rfl 1 (by decide) flX_13 rfl rfl dX0_startedBlocks_1 ?_
  refine lv_bipush (v := nI 16) E.1 E.2.1 dX0_startedBlocks_4 rfl ?_
  refine n_iadd E dX0_startedBlocks_6 ?_
  refine lv_iconst (v := nI 1) E.1 E.2.1 dX0_startedBlocks_7 rfl ?_
  refine n_isub E (by omega) dX0_startedBlocks_8 ?_
  refine lv_bipush (v := nI 16) E.1 E.2.1 dX0_startedBlocks_9 rfl ?_
  refine n_idiv E (by omega) (by omega) (by omega) dX0_startedBlocks_11 ?_
  exact e_i E hr hlk rfl dX0_startedBlocks_12
set_option maxHeartbeats 4000000 in
set_option maxRecDepth 100000 in
theorem cX_couldHold (l : Launch) (o : Nat) (v x y : Int64) (ho : o < 6) : Met l yX0_couldHold (wA yX0_couldHold cX0_couldHold 7 (some .boolean)) (rN 0) (va_Pc [.int (nI o), .long v, .long x, .long y] (fun _ => True)) (vp_Si (fun z => z = bI (cH o v x y))) 0 0 (fun _ => False) := by
  refine met_of RX0 rfl (by decide) (Nat.le_of_ble_eq_true rfl) (fun p e s m below meth cd ls E hr hlk _ hB hl => ?_)
  have hl : lv_has ls 7 [(0, .int (nI o)), (1, .long v), (3, .long x), (5, .long y)] := hl
  refine lv_iload_n E.1 E.2.1 dX0_couldHold_0 rfl (lv_at hl 0 rfl) ?_
  rcases o6 ho with rfl | rfl | rfl | rfl | rfl | rfl
  · skip
    refine lv_tableIn (off := 35) (tgt := 36) E.1 E.2.1 dX0_couldHold_1 (by decide) (by decide) (by decide) rfl ?_
    refine lv_lload_n E.1 E.2.1 dX0_couldHold_36 rfl (lv_at hl 2 rfl) ?_
    refine lv_lload_n E.1 E.2.1 dX0_couldHold_37 rfl (lv_at hl 1 rfl) ?_
    refine l_if_ge (tgt := 46) E dX0_couldHold_38 dX0_couldHold_39 rfl (fun h38 => ?_) (fun h38 => ?_)
    · skip
      refine lv_iconst (v := nI 0) E.1 E.2.1 dX0_couldHold_46 rfl ?_
      exact e_z E hr hlk (show _ = _ from congrArg bI (show false = _ from by simp [cH, h38])) dX0_couldHold_47
    · skip
      refine lv_iconst (v := nI 1) E.1 E.2.1 dX0_couldHold_42 rfl ?_
      refine lv_goto (tgt := 47) E.1 E.2.1 dX0_couldHold_43 rfl ?_
      exact e_z E hr hlk (show _ = _ from congrArg bI (show true = _ from by simp [cH, h38])) dX0_couldHold_47
  · skip
    refine lv_tableIn (off := 47) (tgt := 48) E.1 E.2.1 dX0_couldHold_1 (by decide) (by decide) (by decide) rfl ?_
    refine lv_lload_n E.1 E.2.1 dX0_couldHold_48 rfl (lv_at hl 2 rfl) ?_
    refine lv_lload_n E.1 E.2.1 dX0_couldHold_49 rfl (lv_at hl 1 rfl) ?_
    refine l_if_gt (tgt := 58) E dX0_couldHold_50 dX0_couldHold_51 rfl (fun h50 => ?_) (fun h50 => ?_)
    · skip
      refine lv_iconst (v := nI 0) E.1 E.2.1 dX0_couldHold_58 rfl ?_
      exact e_z E hr hlk (show _ = _ from congrArg bI (show false = _ from by simp [cH, h50])) dX0_couldHold_59
    · skip
      refine lv_iconst (v := nI 1) E.1 E.2.1 dX0_couldHold_54 rfl ?_
      refine lv_goto (tgt := 59) E.1 E.2.1 dX0_couldHold_55 rfl ?_
      exact e_z E hr hlk (show _ = _ from congrArg bI (show true = _ from by simp [cH, h50])) dX0_couldHold_59
  · skip
    refine lv_tableIn (off := 59) (tgt := 60) E.1 E.2.1 dX0_couldHold_1 (by decide) (by decide) (by decide) rfl ?_
    refine lv_lload_n E.1 E.2.1 dX0_couldHold_60 rfl (lv_at hl 2 rfl) ?_
    refine lv_lload_n E.1 E.2.1 dX0_couldHold_61 rfl (lv_at hl 1 rfl) ?_
    refine l_if_gt (tgt := 77) E dX0_couldHold_62 dX0_couldHold_63 rfl (fun h62 => ?_) (fun h62 => ?_)
    · skip
      refine lv_iconst (v := nI 0) E.1 E.2.1 dX0_couldHold_77 rfl ?_
      exact e_z E hr hlk (show _ = _ from congrArg bI (show false = _ from by simp [cH, h62])) dX0_couldHold_78
    · skip
      refine lv_lload_n E.1 E.2.1 dX0_couldHold_66 rfl (lv_at hl 1 rfl) ?_
      refine lv_lload E.1 E.2.1 dX0_couldHold_67 (lv_at hl 3 rfl) ?_
      refine l_if_gt (tgt := 77) E dX0_couldHold_69 dX0_couldHold_70 rfl (fun h69 => ?_) (fun h69 => ?_)
      · skip
        refine lv_iconst (v := nI 0) E.1 E.2.1 dX0_couldHold_77 rfl ?_
        exact e_z E hr hlk (show _ = _ from congrArg bI (show false = _ from by simp [cH, h62, h69])) dX0_couldHold_78
      · skip
        refine lv_iconst (v := nI 1) E.1 E.2.1 dX0_couldHold_73 rfl ?_
        refine lv_goto (tgt := 78) E.1 E.2.1 dX0_couldHold_74 rfl ?_
        exact e_z E hr hlk (show _ = _ from congrArg bI (show true = _ from by simp [cH, h62, h69])) dX0_couldHold_78
  · skip
    refine lv_tableIn (off := 78) (tgt := 79) E.1 E.2.1 dX0_couldHold_1 (by decide) (by decide) (by decide) rfl ?_
    refine lv_lload E.1 E.2.1 dX0_couldHold_79 (lv_at hl 3 rfl) ?_
    refine lv_lload_n E.1 E.2.1 dX0_couldHold_81 rfl (lv_at hl 1 rfl) ?_
    refine l_if_lt (tgt := 90) E dX0_couldHold_82 dX0_couldHold_83 rfl (fun h82 => ?_) (fun h82 => ?_)
    · skip
      refine lv_iconst (v := nI 0) E.1 E.2.1 dX0_couldHold_90 rfl ?_
      exact e_z E hr hlk (show _ = _ from congrArg bI (show false = _ from by simp [cH, h82])) dX0_couldHold_91
    · skip
      refine lv_iconst (v := nI 1) E.1 E.2.1 dX0_couldHold_86 rfl ?_
      refine lv_goto (tgt := 91) E.1 E.2.1 dX0_couldHold_87 rfl ?_
      exact e_z E hr hlk (show _ = _ from congrArg bI (show true = _ from by simp [cH, h82])) dX0_couldHold_91
  · skip
    refine lv_tableIn (off := 91) (tgt := 92) E.1 E.2.1 dX0_couldHold_1 (by decide) (by decide) (by decide) rfl ?_
    refine lv_lload E.1 E.2.1 dX0_couldHold_92 (lv_at hl 3 rfl) ?_
    refine lv_lload_n E.1 E.2.1 dX0_couldHold_94 rfl (lv_at hl 1 rfl) ?_
    refine l_if_le (tgt := 103) E dX0_couldHold_95 dX0_couldHold_96 rfl (fun h95 => ?_) (fun h95 => ?_)
    · skip
      refine lv_iconst (v := nI 0) E.1 E.2.1 dX0_couldHold_103 rfl ?_
      exact e_z E hr hlk (show _ = _ from congrArg bI (show false = _ from by simp [cH, h95])) dX0_couldHold_104
    · skip
      refine lv_iconst (v := nI 1) E.1 E.2.1 dX0_couldHold_99 rfl ?_
      refine lv_goto (tgt := 104) E.1 E.2.1 dX0_couldHold_100 rfl ?_
      exact e_z E hr hlk (show _ = _ from congrArg bI (show true = _ from by simp [cH, h95])) dX0_couldHold_104
  · skip
    refine lv_tableOut (tgt := 105) E.1 E.2.1 dX0_couldHold_1 (by decide) rfl ?_
    refine lv_lload_n E.1 E.2.1 dX0_couldHold_105 rfl (lv_at hl 2 rfl) ?_
    refine lv_lload_n E.1 E.2.1 dX0_couldHold_106 rfl (lv_at hl 1 rfl) ?_
    refine l_if_ne (tgt := 118) E dX0_couldHold_107 dX0_couldHold_108 rfl (fun h107 => ?_) (fun h107 => ?_)
    · skip
      refine lv_iconst (v := nI 1) E.1 E.2.1 dX0_couldHold_118 rfl ?_
      refine lv_goto (tgt := 123) E.1 E.2.1 dX0_couldHold_119 rfl ?_
      exact e_z E hr hlk (show _ = _ from congrArg bI (show true = _ from by simp [cH, h107])) dX0_couldHold_123
    · skip
      refine lv_lload E.1 E.2.1 dX0_couldHold_111 (lv_at hl 3 rfl) ?_
      refine lv_lload_n E.1 E.2.1 dX0_couldHold_113 rfl (lv_at hl 1 rfl) ?_
      refine l_if_eq (tgt := 122) E dX0_couldHold_114 dX0_couldHold_115 rfl (fun h114 => ?_) (fun h114 => ?_)
      · skip
        refine lv_iconst (v := nI 0) E.1 E.2.1 dX0_couldHold_122 rfl ?_
        exact e_z E hr hlk (show _ = _ from congrArg bI (show false = _ from by simp [cH, h107, h114])) dX0_couldHold_123
      · skip
        refine lv_iconst (v := nI 1) E.1 E.2.1 dX0_couldHold_118 rfl ?_
        refine lv_goto (tgt := 123) E.1 E.2.1 dX0_couldHold_119 rfl ?_
        exact e_z E hr hlk (show _ = _ from congrArg bI (show true = _ from by simp [cH, h107, h114])) dX0_couldHold_123
set_option maxHeartbeats 4000000 in
set_option maxRecDepth 100000 in
theorem cX_isChosen (l : Launch) (D : va_G) (ad : Nat → Nat) (ca : Nat → ClassId) (T : Nat → Nat → Int64) (n : Nat) (kc ko : Nat → Nat) (kv : Nat → Int64) (k : Nat) (lo hi : Nat → Int64) (bw bb pk : Nat → Nat) (r : Nat) (hIK : iK kc ko k) (hr0 : r < 128) : Met l yX0_isChosen (wA yX0_isChosen cX0_isChosen 5 (some .boolean)) (rN 1) (va_Pc [.ref (ad 0), .int (nI r)] (pW D c2 (tX ca) (wX ad ca T n kc ko kv k lo hi bw bb pk))) (vp_Si (fun z => z = bI (ch T kc ko kv k r))) 0 0 (fun _ => False) := by
  refine met_of RX0 rfl (by decide) (Nat.le_of_ble_eq_true rfl) (fun p e s m below meth cd ls E hr hlk _ hB hl => ?_)
  obtain ⟨hP, hK⟩ := hB
  have hl : lv_has ls 5 [(0, .ref (ad 0)), (1, .int (nI r))] := hl
  obtain ⟨hk, hkc, hko⟩ := id hIK
  refine lv_iconst (v := nI 0) E.1 E.2.1 dX0_isChosen_0 rfl ?_
  refine lv_istore_n (lv' := [(2, .int (nI 0)), (0, .ref (ad 0)), (1, .int (nI r))]) E.1 E.2.1 dX0_isChosen_1 rfl hl (by decide) rfl (fun ls hl => ?_)
  refine w_lp1 (fun (j : Nat) => j ≤ k ∧ al (fun i => hO (ko i) (T r (kc i)) (kv i)) j = true) (fun (j : Nat) => k - j) (fun (j : Nat) => [(2, .int (nI j)), (0, .ref (ad 0)), (1, .int (nI r))]) 0 (⟨Nat.zero_le _, rfl⟩) (lv_sub hl [0, 1, 2] rfl) (fun j ls hI hl ih2 => ?_)
  have hl : lv_has ls 5 [(2, .int (nI j)), (0, .ref (ad 0)), (1, .int (nI r))] := hl
  obtain ⟨hj, hc⟩ := hI
  refine lv_iload_n E.1 E.2.1 dX0_isChosen_2 rfl (lv_at hl 0 rfl) ?_
  refine lv_aload_n E.1 E.2.1 dX0_isChosen_3 rfl (lv_at hl 1 rfl) ?_
  refine n_get E inX hK hP 0 rfl rfl 5 (by decide) flX_27 rfl rfl dX0_isChosen_4 ?_
  refine n_icmp_ge (tgt := 54) E dX0_isChosen_7 rfl (by omega) (by omega) (fun h7 => ?_) (fun h7 => ?_)
  · skip
    refine lv_iconst (v := nI 1) E.1 E.2.1 dX0_isChosen_54 rfl ?_
    exact e_z E hr hlk (show _ = _ from congrArg bI (show true = _ from by rw [show k = j by omega]; exact hc.symm)) dX0_isChosen_55
  · skip
    refine lv_aload_n E.1 E.2.1 dX0_isChosen_10 rfl (lv_at hl 1 rfl) ?_
    refine n_get E inX hK hP 0 rfl rfl 0 (by decide) flX_9 rfl rfl dX0_isChosen_11 ?_
    refine lv_iload_n E.1 E.2.1 dX0_isChosen_14 rfl (lv_at hl 2 rfl) ?_
    refine lv_aload_n E.1 E.2.1 dX0_isChosen_15 rfl (lv_at hl 1 rfl) ?_
    refine n_get E inX hK hP 0 rfl rfl 2 (by decide) flX_17 rfl rfl dX0_isChosen_16 ?_
    refine lv_iload_n E.1 E.2.1 dX0_isChosen_19 rfl (lv_at hl 0 rfl) ?_
    have hq := hkc j
    refine n_iald E hK hP 2 1 rfl rfl (by decide) (by omega) dX0_isChosen_20 ?_
    refine cS_i E (As := [.int (nI r), .int (nI (kc j))]) (rest := [.ref (ad 1)]) (cX_spot l r (kc j)) kX_52 rfl rfl ⟨Nat.le_of_ble_eq_true rfl, Nat.le_of_ble_eq_true rfl⟩ rfl hl.1 rfl (Nat.le_of_ble_eq_true rfl) dX0_isChosen_21 ⟨Nat.zero_le _, Nat.zero_le _⟩ ?_
    refine n_cald E hK hP 1 0 rfl rfl r (kc j) (by omega) (by omega) (by omega) dX0_isChosen_24 ?_
    refine lv_lstore_n (lv' := [(3, .long (T r (kc j))), (2, .int (nI j)), (0, .ref (ad 0)), (1, .int (nI r))]) E.1 E.2.1 dX0_isChosen_25 rfl hl (by decide) rfl (fun ls hl => ?_)
    refine lv_aload_n E.1 E.2.1 dX0_isChosen_26 rfl (lv_at hl 2 rfl) ?_
    refine n_get E inX hK hP 0 rfl rfl 3 (by decide) flX_21 rfl rfl dX0_isChosen_27 ?_
    refine lv_iload_n E.1 E.2.1 dX0_isChosen_30 rfl (lv_at hl 1 rfl) ?_
    refine n_iald E hK hP 3 2 rfl rfl (by decide) (by omega) dX0_isChosen_31 ?_
    refine lv_aload_n E.1 E.2.1 dX0_isChosen_32 rfl (lv_at hl 2 rfl) ?_
    refine n_get E inX hK hP 0 rfl rfl 4 (by decide) flX_24 rfl rfl dX0_isChosen_33 ?_
    refine lv_iload_n E.1 E.2.1 dX0_isChosen_36 rfl (lv_at hl 1 rfl) ?_
    refine n_lald E hK hP 4 3 rfl rfl (by decide) (by omega) dX0_isChosen_37 ?_
    refine lv_lload_n E.1 E.2.1 dX0_isChosen_38 rfl (lv_at hl 0 rfl) ?_
    refine lv_lload_n E.1 E.2.1 dX0_isChosen_39 rfl (lv_at hl 0 rfl) ?_
    refine cS_i E (As := [.int (nI (ko j)), .long (kv j), .long (T r (kc j)), .long (T r (kc j))]) (rest := []) (cX_couldHold l (ko j) (kv j) (T r (kc j)) (T r (kc j)) (hko j)) kX_151 rfl rfl ⟨Nat.le_of_ble_eq_true rfl, Nat.le_of_ble_eq_true rfl⟩ rfl hl.1 rfl (Nat.le_of_ble_eq_true rfl) dX0_isChosen_40 ⟨Nat.zero_le _, Nat.zero_le _⟩ ?_
    refine b_if_ne (tgt := 48) E dX0_isChosen_43 rfl (fun h43 => ?_) (fun h43 => ?_)
    · skip
      refine lv_iinc (k := 1) (v := nI (j + 1)) (lv' := [(2, .int (nI (j + 1))), (3, .long (T r (kc j))), (0, .ref (ad 0)), (1, .int (nI r))]) E.1 E.2.1 dX0_isChosen_48 hl rfl (inc1 _) (by decide) rfl (fun ls hl => ?_)
      refine lv_goto (tgt := 2) E.1 E.2.1 dX0_isChosen_51 rfl ?_
      exact ih2 (j + 1) _ (⟨by omega, al_s hc ((cH_one _ _ _).symm.trans h43)⟩) (by omega) (lv_sub hl [0, 2, 3] rfl)
    · skip
      refine lv_iconst (v := nI 0) E.1 E.2.1 dX0_isChosen_46 rfl ?_
      exact e_z E hr hlk (show _ = _ from congrArg bI (show false = _ from (al_false h7 ((cH_one _ _ _).symm.trans h43)).symm)) dX0_isChosen_47
set_option maxHeartbeats 4000000 in
set_option maxRecDepth 100000 in
theorem cX_isPassedOver (l : Launch) (D : va_G) (ad : Nat → Nat) (ca : Nat → ClassId) (T : Nat → Nat → Int64) (n : Nat) (kc ko : Nat → Nat) (kv : Nat → Int64) (k : Nat) (lo hi : Nat → Int64) (bw bb pk : Nat → Nat) (b : Nat) (hIK : iK kc ko k) (hn128 : n ≤ 128) (hb0 : b < 1000) : Met l yX0_isPassedOver (wA yX0_isPassedOver cX0_isPassedOver 4 (some .boolean)) (rN 1) (va_Pc [.ref (ad 0), .int (nI b)] (pW D c2 (tX ca) (wX ad ca T n kc ko kv k lo hi bw bb pk))) (vp_Si (fun z => z = bI (po n kc ko kv k lo hi b))) 0 0 (fun _ => False) := by
  refine met_of RX0 rfl (by decide) (Nat.le_of_ble_eq_true rfl) (fun p e s m below meth cd ls E hr hlk _ hB hl => ?_)
  obtain ⟨hP, hK⟩ := hB
  have hl : lv_has ls 4 [(0, .ref (ad 0)), (1, .int (nI b))] := hl
  obtain ⟨hk, hkc, hko⟩ := id hIK
  refine lv_iload_n E.1 E.2.1 dX0_isPassedOver_0 rfl (lv_at hl 1 rfl) ?_
  refine lv_aload_n E.1 E.2.1 dX0_isPassedOver_1 rfl (lv_at hl 0 rfl) ?_
  refine cV_i E (As := []) (rest := [.int (nI b)]) (cX_fullBlocks l D ad ca T n kc ko kv k lo hi bw bb pk (by omega)) kX_135 hK hP 0 rfl rfl rfl rfl ⟨Nat.le_of_ble_eq_true rfl, Nat.le_of_ble_eq_true rfl⟩ rfl hl.1 rfl (Nat.le_of_ble_eq_true rfl) dX0_isPassedOver_2 ⟨Nat.zero_le _, Nat.zero_le _⟩ ?_
  refine n_icmp_lt (tgt := 10) E dX0_isPassedOver_5 rfl (by omega) (by omega) (fun h5 => ?_) (fun h5 => ?_)
  · skip
    refine lv_iconst (v := nI 0) E.1 E.2.1 dX0_isPassedOver_10 rfl ?_
    refine lv_istore_n (lv' := [(2, .int (nI 0)), (0, .ref (ad 0)), (1, .int (nI b))]) E.1 E.2.1 dX0_isPassedOver_11 rfl hl (by decide) rfl (fun ls hl => ?_)
    refine w_lp1 (fun (j : Nat) => j ≤ k ∧ al (fun i => cH (ko i) (kv i) (lo (b * 4 + kc i)) (hi (b * 4 + kc i))) j = true) (fun (j : Nat) => k - j) (fun (j : Nat) => [(2, .int (nI j)), (0, .ref (ad 0)), (1, .int (nI b))]) 0 (⟨Nat.zero_le _, rfl⟩) (lv_sub hl [0, 1, 2] rfl) (fun j ls hI hl ih12 => ?_)
    have hl : lv_has ls 4 [(2, .int (nI j)), (0, .ref (ad 0)), (1, .int (nI b))] := hl
    obtain ⟨hj, hc⟩ := hI
    refine lv_iload_n E.1 E.2.1 dX0_isPassedOver_12 rfl (lv_at hl 0 rfl) ?_
    refine lv_aload_n E.1 E.2.1 dX0_isPassedOver_13 rfl (lv_at hl 1 rfl) ?_
    refine n_get E inX hK hP 0 rfl rfl 5 (by decide) flX_27 rfl rfl dX0_isPassedOver_14 ?_
    refine n_icmp_ge (tgt := 69) E dX0_isPassedOver_17 rfl (by omega) (by omega) (fun h17 => ?_) (fun h17 => ?_)
    · skip
      refine lv_iconst (v := nI 0) E.1 E.2.1 dX0_isPassedOver_69 rfl ?_
      exact e_z E hr hlk (show _ = _ from congrArg bI (show false = _ from by rw [po_lt h5, show k = j by omega, hc]; rfl)) dX0_isPassedOver_70
    · skip
      refine lv_iload_n E.1 E.2.1 dX0_isPassedOver_20 rfl (lv_at hl 2 rfl) ?_
      refine lv_aload_n E.1 E.2.1 dX0_isPassedOver_21 rfl (lv_at hl 1 rfl) ?_
      refine n_get E inX hK hP 0 rfl rfl 2 (by decide) flX_17 rfl rfl dX0_isPassedOver_22 ?_
      refine lv_iload_n E.1 E.2.1 dX0_isPassedOver_25 rfl (lv_at hl 0 rfl) ?_
      have hq := hkc j
      refine n_iald E hK hP 2 1 rfl rfl (by decide) (by omega) dX0_isPassedOver_26 ?_
      refine cS_i E (As := [.int (nI b), .int (nI (kc j))]) (rest := []) (cX_place l b (kc j)) kX_123 rfl rfl ⟨Nat.le_of_ble_eq_true rfl, Nat.le_of_ble_eq_true rfl⟩ rfl hl.1 rfl (Nat.le_of_ble_eq_true rfl) dX0_isPassedOver_27 ⟨Nat.zero_le _, Nat.zero_le _⟩ ?_
      refine lv_istore_n (lv' := [(3, .int (nI (b * 4 + (kc j)))), (2, .int (nI j)), (0, .ref (ad 0)), (1, .int (nI b))]) E.1 E.2.1 dX0_isPassedOver_30 rfl hl (by decide) rfl (fun ls hl => ?_)
      refine lv_aload_n E.1 E.2.1 dX0_isPassedOver_31 rfl (lv_at hl 2 rfl) ?_
      refine n_get E inX hK hP 0 rfl rfl 3 (by decide) flX_21 rfl rfl dX0_isPassedOver_32 ?_
      refine lv_iload_n E.1 E.2.1 dX0_isPassedOver_35 rfl (lv_at hl 1 rfl) ?_
      refine n_iald E hK hP 3 2 rfl rfl (by decide) (by omega) dX0_isPassedOver_36 ?_
      refine lv_aload_n E.1 E.2.1 dX0_isPassedOver_37 rfl (lv_at hl 2 rfl) ?_
      refine n_get E inX hK hP 0 rfl rfl 4 (by decide) flX_24 rfl rfl dX0_isPassedOver_38 ?_
      refine lv_iload_n E.1 E.2.1 dX0_isPassedOver_41 rfl (lv_at hl 1 rfl) ?_
      refine n_lald E hK hP 4 3 rfl rfl (by decide) (by omega) dX0_isPassedOver_42 ?_
      refine lv_aload_n E.1 E.2.1 dX0_isPassedOver_43 rfl (lv_at hl 2 rfl) ?_
      refine n_get E inX hK hP 0 rfl rfl 6 (by decide) flX_30 rfl rfl dX0_isPassedOver_44 ?_
      refine lv_iload_n E.1 E.2.1 dX0_isPassedOver_47 rfl (lv_at hl 0 rfl) ?_
      refine n_lald E hK hP 5 4 rfl rfl (by decide) (by omega) dX0_isPassedOver_48 ?_
      refine lv_aload_n E.1 E.2.1 dX0_isPassedOver_49 rfl (lv_at hl 2 rfl) ?_
      refine n_get E inX hK hP 0 rfl rfl 7 (by decide) flX_33 rfl rfl dX0_isPassedOver_50 ?_
      refine lv_iload_n E.1 E.2.1 dX0_isPassedOver_53 rfl (lv_at hl 0 rfl) ?_
      refine n_lald E hK hP 6 5 rfl rfl (by decide) (by omega) dX0_isPassedOver_54 ?_
      refine cS_i E (As := [.int (nI (ko j)), .long (kv j), .long (lo (b * 4 + (kc j))), .long (hi (b * 4 + (kc j)))]) (rest := []) (cX_couldHold l (ko j) (kv j) (lo (b * 4 + (kc j))) (hi (b * 4 + (kc j))) (hko j)) kX_151 rfl rfl ⟨Nat.le_of_ble_eq_true rfl, Nat.le_of_ble_eq_true rfl⟩ rfl hl.1 rfl (Nat.le_of_ble_eq_true rfl) dX0_isPassedOver_55 ⟨Nat.zero_le _, Nat.zero_le _⟩ ?_
      refine b_if_ne (tgt := 63) E dX0_isPassedOver_58 rfl (fun h58 => ?_) (fun h58 => ?_)
      · skip
        refine lv_iinc (k := 1) (v := nI (j + 1)) (lv' := [(2, .int (nI (j + 1))), (3, .int (nI (b * 4 + (kc j)))), (0, .ref (ad 0)), (1, .int (nI b))]) E.1 E.2.1 dX0_isPassedOver_63 hl rfl (inc1 _) (by decide) rfl (fun ls hl => ?_)
        refine lv_goto (tgt := 12) E.1 E.2.1 dX0_isPassedOver_66 rfl ?_
        exact ih12 (j + 1) _ (⟨by omega, al_s hc h58⟩) (by omega) (lv_sub hl [0, 2, 3] rfl)
      · skip
        refine lv_iconst (v := nI 1) E.1 E.2.1 dX0_isPassedOver_61 rfl ?_
        exact e_z E hr hlk (show _ = _ from congrArg bI (show true = _ from by rw [po_lt h5, al_false h17 h58]; rfl)) dX0_isPassedOver_62
  · skip
    refine lv_iconst (v := nI 0) E.1 E.2.1 dX0_isPassedOver_8 rfl ?_
    exact e_z E hr hlk (show _ = _ from congrArg bI (show false = _ from (po_ge h5).symm)) dX0_isPassedOver_9
set_option maxHeartbeats 4000000 in
set_option maxRecDepth 100000 in
theorem cX_pickFromBlock (l : Launch) (D : va_G) (ad : Nat → Nat) (ca : Nat → ClassId) (T : Nat → Nat → Int64) (n : Nat) (kc ko : Nat → Nat) (kv : Nat → Int64) (k : Nat) (lo hi : Nat → Int64) (bw bb pk : Nat → Nat) (b : Nat) (hIK : iK kc ko k) (hN : inj ad 10) (hb0 : b * 16 < n) (hn128 : n ≤ 128) (hE : En pk (ch T kc ko kv k) (b * 16)) : Met l yX0_pickFromBlock (wA yX0_pickFromBlock cX0_pickFromBlock 6 (some .int)) (rN 2) (va_Pc [.ref (ad 0), .int (nI b), .int (nI (ct (ch T kc ko kv k) (b * 16)))] (pW D c2 (tX ca) (wX ad ca T n kc ko kv k lo hi bw bb pk))) (qI (fun z (q : Nat → Nat) => z = nI (ct (ch T kc ko kv k) (min n (b * 16 + 16))) ∧ En q (ch T kc ko kv k) (min n (b * 16 + 16))) D c2 (fun q => wX ad ca T n kc ko kv k lo hi bw bb q) (fA ad 10)) 0 0 (fA ad 10) := by
  refine met_of RX0 rfl (by decide) (Nat.le_of_ble_eq_true rfl) (fun p e s m below meth cd ls E hr hlk _ hB hl => ?_)
  obtain ⟨hP, hK⟩ := hB
  have hl : lv_has ls 6 [(0, .ref (ad 0)), (1, .int (nI b)), (2, .int (nI (ct (ch T kc ko kv k) (b * 16))))] := hl
  have hS : va_S (fA ad 10) s.heap s.heap [] := va_S.rf
  refine lv_iload_n E.1 E.2.1 dX0_pickFromBlock_0 rfl (lv_at hl 2 rfl) ?_
  refine lv_istore_n (lv' := [(3, .int (nI (ct (ch T kc ko kv k) (b * 16)))), (0, .ref (ad 0)), (1, .int (nI b)), (2, .int (nI (ct (ch T kc ko kv k) (b * 16))))]) E.1 E.2.1 dX0_pickFromBlock_1 rfl hl (by decide) rfl (fun ls hl => ?_)
  refine lv_aload_n E.1 E.2.1 dX0_pickFromBlock_2 rfl (lv_at hl 1 rfl) ?_
  refine n_get E inX hK hP 0 rfl rfl 1 (by decide) flX_13 rfl rfl dX0_pickFromBlock_3 ?_
  refine lv_iload_n E.1 E.2.1 dX0_pickFromBlock_6 rfl (lv_at hl 2 rfl) ?_
  refine lv_iconst (v := nI 1) E.1 E.2.1 dX0_pickFromBlock_7 rfl ?_
  refine n_iadd E dX0_pickFromBlock_8 ?_
  refine lv_bipush (v := nI 16) E.1 E.2.1 dX0_pickFromBlock_9 rfl ?_
  refine n_imul E dX0_pickFromBlock_11 ?_
  refine va_mmin E.1 E.2.1 (E.2.2.1.trans hl.1.symm) E.2.2.2.1 (E.2.2.2.2 _ mi_l) (E.2.2.2.2 _ mi_s) (E.2.2.2.2 _ mt_i) (E.2.2.2.2 _ mi_c) (Nat.le_of_ble_eq_true rfl) (Nat.le_of_ble_eq_true rfl) (Nat.zero_le _) (Nat.zero_le _) dX0_pickFromBlock_12 ?_
  refine tpi (nI_min (by omega) (by omega)) ?_
  refine lv_istore (lv' := [(4, .int (nI (min n ((b + 1) * 16)))), (3, .int (nI (ct (ch T kc ko kv k) (b * 16)))), (0, .ref (ad 0)), (1, .int (nI b)), (2, .int (nI (ct (ch T kc ko kv k) (b * 16))))]) E.1 E.2.1 dX0_pickFromBlock_15 hl (by decide) rfl (fun ls hl => ?_)
  refine lv_iload_n E.1 E.2.1 dX0_pickFromBlock_17 rfl (lv_at hl 3 rfl) ?_
  refine lv_bipush (v := nI 16) E.1 E.2.1 dX0_pickFromBlock_18 rfl ?_
  refine n_imul E dX0_pickFromBlock_20 ?_
  refine lv_istore (lv' := [(5, .int (nI (b * 16))), (4, .int (nI (min n ((b + 1) * 16)))), (3, .int (nI (ct (ch T kc ko kv k) (b * 16)))), (0, .ref (ad 0)), (1, .int (nI b)), (2, .int (nI (ct (ch T kc ko kv k) (b * 16))))]) E.1 E.2.1 dX0_pickFromBlock_21 hl (by decide) rfl (fun ls hl => ?_)
  refine w_lq2 (fun (r : Nat) (q : Nat → Nat) => b * 16 ≤ r ∧ r ≤ min n ((b + 1) * 16) ∧ En q (ch T kc ko kv k) r) (fun (r : Nat) (q : Nat → Nat) => min n ((b + 1) * 16) - r) (fun (r : Nat) (q : Nat → Nat) => [(5, .int (nI r)), (4, .int (nI (min n ((b + 1) * 16)))), (3, .int (nI (ct (ch T kc ko kv k) r))), (0, .ref (ad 0))]) (fun (r : Nat) (q : Nat → Nat) H locs => va_P D c2 (wX ad ca T n kc ko kv k lo hi bw bb q) H ∧ va_S (fA ad 10) s.heap H locs) (b * 16) pk (⟨by omega, by omega, hE⟩) ⟨hP, hS⟩ (lv_sub hl [0, 1, 2, 3] rfl) (fun r q ls H locs hI hB hl ih23 => ?_)
  obtain ⟨hP, hS⟩ := hB
  have hl : lv_has ls 6 [(5, .int (nI r)), (4, .int (nI (min n ((b + 1) * 16)))), (3, .int (nI (ct (ch T kc ko kv k) r))), (0, .ref (ad 0))] := hl
  have hP : va_P D c2 (wX ad ca T n kc ko kv k lo hi bw bb q) H := hP
  obtain ⟨hr1, hr2, hE⟩ := hI
  refine lv_iload E.1 E.2.1 dX0_pickFromBlock_23 (lv_at hl 0 rfl) ?_
  refine lv_iload E.1 E.2.1 dX0_pickFromBlock_25 (lv_at hl 1 rfl) ?_
  refine n_icmp_ge (tgt := 56) E dX0_pickFromBlock_27 rfl (by omega) (by omega) (fun h27 => ?_) (fun h27 => ?_)
  · skip
    refine lv_iload_n E.1 E.2.1 dX0_pickFromBlock_56 rfl (lv_at hl 2 rfl) ?_
    exact e_wi E hr hlk hS q (⟨by rw [show min n (b * 16 + 16) = r by omega], by rw [show min n (b * 16 + 16) = r by omega]; exact hE⟩) hP dX0_pickFromBlock_57
  · skip
    refine lv_aload_n E.1 E.2.1 dX0_pickFromBlock_30 rfl (lv_at hl 3 rfl) ?_
    refine lv_iload E.1 E.2.1 dX0_pickFromBlock_31 (lv_at hl 0 rfl) ?_
    have hq := ct_le (ch T kc ko kv k) r
    refine cV_i E (As := [.int (nI r)]) (rest := []) (cX_isChosen l D ad ca T n kc ko kv k lo hi bw bb q r hIK (by omega)) kX_148 hK hP 0 rfl rfl rfl rfl ⟨Nat.le_of_ble_eq_true rfl, Nat.le_of_ble_eq_true rfl⟩ rfl hl.1 rfl (Nat.le_of_ble_eq_true rfl) dX0_pickFromBlock_33 ⟨Nat.zero_le _, Nat.zero_le _⟩ ?_
    refine b_if_eq (tgt := 50) E dX0_pickFromBlock_36 rfl (fun h36 => ?_) (fun h36 => ?_)
    · skip
      refine lv_iinc (k := 0) (v := nI (r + 1)) (lv' := [(5, .int (nI (r + 1))), (4, .int (nI (min n ((b + 1) * 16)))), (3, .int (nI (ct (ch T kc ko kv k) r))), (0, .ref (ad 0))]) E.1 E.2.1 dX0_pickFromBlock_50 hl rfl (inc1 _) (by decide) rfl (fun ls hl => ?_)
      refine lv_goto (tgt := 23) E.1 E.2.1 dX0_pickFromBlock_53 rfl ?_
      rw [← ct_f h36] at hl
      exact ih23 (r + 1) q _ _ _ (⟨by omega, by omega, en_f hE h36⟩) (by omega) ⟨hP, hS⟩ (lv_sub hl [0, 1, 2, 3] rfl)
    · skip
      refine lv_aload_n E.1 E.2.1 dX0_pickFromBlock_39 rfl (lv_at hl 3 rfl) ?_
      refine n_get E inX hK hP 0 rfl rfl 10 (by decide) flX_42 rfl rfl dX0_pickFromBlock_40 ?_
      refine lv_iload_n E.1 E.2.1 dX0_pickFromBlock_43 rfl (lv_at hl 2 rfl) ?_
      refine lv_iload E.1 E.2.1 dX0_pickFromBlock_44 (lv_at hl 0 rfl) ?_
      refine n_iast E hK hP (dW hN rfl) hS 9 8 rfl rfl (by decide) (by omega) dX0_pickFromBlock_46 (fun H locs hP hS => ?_)
      have hP : va_P D c2 (wX ad ca T n kc ko kv k lo hi bw bb (fS q (ct (ch T kc ko kv k) r) r)) H := hP
      refine lv_iinc (k := 2) (v := nI (ct (ch T kc ko kv k) r + 1)) (lv' := [(3, .int (nI (ct (ch T kc ko kv k) r + 1))), (5, .int (nI r)), (4, .int (nI (min n ((b + 1) * 16)))), (0, .ref (ad 0))]) E.1 E.2.1 dX0_pickFromBlock_47 hl rfl (inc1 _) (by decide) rfl (fun ls hl => ?_)
      refine lv_iinc (k := 1) (v := nI (r + 1)) (lv' := [(5, .int (nI (r + 1))), (3, .int (nI (ct (ch T kc ko kv k) r + 1))), (4, .int (nI (min n ((b + 1) * 16)))), (0, .ref (ad 0))]) E.1 E.2.1 dX0_pickFromBlock_50 hl rfl (inc1 _) (by decide) rfl (fun ls hl => ?_)
      refine lv_goto (tgt := 23) E.1 E.2.1 dX0_pickFromBlock_53 rfl ?_
      rw [← ct_t h36] at hl
      exact ih23 (r + 1) (fS q (ct (ch T kc ko kv k) r) r) _ _ _ (⟨by omega, by omega, en_t hE h36⟩) (by omega) ⟨hP, hS⟩ (lv_sub hl [0, 2, 1, 3] rfl)
set_option maxHeartbeats 4000000 in
set_option maxRecDepth 100000 in
theorem cX_pick (l : Launch) (D : va_G) (ad : Nat → Nat) (ca : Nat → ClassId) (T : Nat → Nat → Int64) (n : Nat) (kc ko : Nat → Nat) (kv : Nat → Int64) (k : Nat) (lo hi : Nat → Int64) (bw bb pk : Nat → Nat)  (hIK : iK kc ko k) (hN : inj ad 10) (hn128 : n ≤ 128) (hiB : iB T n lo hi) : Met l yX0_pick (wA yX0_pick cX0_pick 3 (some .int)) (rN 3) (va_Pc [.ref (ad 0)] (pW D c2 (tX ca) (wX ad ca T n kc ko kv k lo hi bw bb pk))) (qI (fun z (q : Nat → Nat) => z = nI (ct (ch T kc ko kv k) n) ∧ En q (ch T kc ko kv k) n) D c2 (fun q => wX ad ca T n kc ko kv k lo hi bw bb q) (fA ad 10)) 0 0 (fA ad 10) := by
  refine met_of RX0 rfl (by decide) (Nat.le_of_ble_eq_true rfl) (fun p e s m below meth cd ls E hr hlk _ hB hl => ?_)
  obtain ⟨hP, hK⟩ := hB
  have hl : lv_has ls 3 [(0, .ref (ad 0))] := hl
  have hS : va_S (fA ad 10) s.heap s.heap [] := va_S.rf
  refine lv_iconst (v := nI 0) E.1 E.2.1 dX0_pick_0 rfl ?_
  refine lv_istore_n (lv' := [(1, .int (nI 0)), (0, .ref (ad 0))]) E.1 E.2.1 dX0_pick_1 rfl hl (by decide) rfl (fun ls hl => ?_)
  refine lv_iconst (v := nI 0) E.1 E.2.1 dX0_pick_2 rfl ?_
  refine lv_istore_n (lv' := [(2, .int (nI 0)), (1, .int (nI 0)), (0, .ref (ad 0))]) E.1 E.2.1 dX0_pick_3 rfl hl (by decide) rfl (fun ls hl => ?_)
  refine w_lq3 (fun (b : Nat) (r : Nat) (q : Nat → Nat) => b * 16 ≤ n + 15 ∧ r = min n (b * 16) ∧ En q (ch T kc ko kv k) r) (fun (b : Nat) (r : Nat) (q : Nat → Nat) => n + 16 - b * 16) (fun (b : Nat) (r : Nat) (q : Nat → Nat) => [(2, .int (nI b)), (1, .int (nI (ct (ch T kc ko kv k) r))), (0, .ref (ad 0))]) (fun (b : Nat) (r : Nat) (q : Nat → Nat) H locs => va_P D c2 (wX ad ca T n kc ko kv k lo hi bw bb q) H ∧ va_S (fA ad 10) s.heap H locs) 0 0 pk (⟨by omega, by omega, en_0 _ _⟩) ⟨hP, hS⟩ (lv_sub hl [0, 1, 2] rfl) (fun b r q ls H locs hI hB hl ih4 => ?_)
  obtain ⟨hP, hS⟩ := hB
  have hl : lv_has ls 3 [(2, .int (nI b)), (1, .int (nI (ct (ch T kc ko kv k) r))), (0, .ref (ad 0))] := hl
  have hP : va_P D c2 (wX ad ca T n kc ko kv k lo hi bw bb q) H := hP
  obtain ⟨hr0, hr1, hE⟩ := hI
  refine lv_iload_n E.1 E.2.1 dX0_pick_4 rfl (lv_at hl 0 rfl) ?_
  refine lv_aload_n E.1 E.2.1 dX0_pick_5 rfl (lv_at hl 2 rfl) ?_
  refine cV_i E (As := []) (rest := [.int (nI b)]) (cX_startedBlocks l D ad ca T n kc ko kv k lo hi bw bb q (by omega)) kX_81 hK hP 0 rfl rfl rfl rfl ⟨Nat.le_of_ble_eq_true rfl, Nat.le_of_ble_eq_true rfl⟩ rfl hl.1 rfl (Nat.le_of_ble_eq_true rfl) dX0_pick_6 ⟨Nat.zero_le _, Nat.zero_le _⟩ ?_
  refine n_icmp_ge (tgt := 33) E dX0_pick_9 rfl (by omega) (by omega) (fun h9 => ?_) (fun h9 => ?_)
  · skip
    refine lv_iload_n E.1 E.2.1 dX0_pick_33 rfl (lv_at hl 1 rfl) ?_
    exact e_wi E hr hlk hS q (⟨by rw [show n = r by omega], by rw [show n = r by omega]; exact hE⟩) hP dX0_pick_34
  · skip
    have hb9 : b * 16 < n := by omega
    have hr9 : r = b * 16 := by omega
    subst hr9
    refine lv_aload_n E.1 E.2.1 dX0_pick_12 rfl (lv_at hl 2 rfl) ?_
    refine lv_iload_n E.1 E.2.1 dX0_pick_13 rfl (lv_at hl 0 rfl) ?_
    refine cV_i E (As := [.int (nI b)]) (rest := []) (cX_isPassedOver l D ad ca T n kc ko kv k lo hi bw bb q b hIK (by omega) (by omega)) kX_84 hK hP 0 rfl rfl rfl rfl ⟨Nat.le_of_ble_eq_true rfl, Nat.le_of_ble_eq_true rfl⟩ rfl hl.1 rfl (Nat.le_of_ble_eq_true rfl) dX0_pick_14 ⟨Nat.zero_le _, Nat.zero_le _⟩ ?_
    refine b_if_ne (tgt := 27) E dX0_pick_17 rfl (fun h17 => ?_) (fun h17 => ?_)
    · skip
      refine lv_iinc (k := 0) (v := nI (b + 1)) (lv' := [(2, .int (nI (b + 1))), (1, .int (nI (ct (ch T kc ko kv k) (b * 16)))), (0, .ref (ad 0))]) E.1 E.2.1 dX0_pick_27 hl rfl (inc1 _) (by decide) rfl (fun ls hl => ?_)
      refine lv_goto (tgt := 4) E.1 E.2.1 dX0_pick_30 rfl ?_
      have hno := po_none hiB hIK.2.1 h17
      have hfb := po_full h17
      have hE2 : En q (ch T kc ko kv k) (min n (b * 16 + 16)) := en_none hE (fun j h1 h2 => hno j (by omega) (by omega))
      rw [← ct_none (p := (ch T kc ko kv k)) (b := min n (b * 16 + 16)) (by omega) (fun j h1 h2 => hno j (by omega) (by omega))] at hl
      exact ih4 (b + 1) (min n (b * 16 + 16)) q _ _ _ (⟨by omega, by omega, hE2⟩) (by omega) ⟨hP, hS⟩ (lv_sub hl [0, 1, 2] rfl)
    · skip
      refine lv_aload_n E.1 E.2.1 dX0_pick_20 rfl (lv_at hl 2 rfl) ?_
      refine lv_iload_n E.1 E.2.1 dX0_pick_21 rfl (lv_at hl 0 rfl) ?_
      refine lv_iload_n E.1 E.2.1 dX0_pick_22 rfl (lv_at hl 1 rfl) ?_
      refine cV_wi E (As := [.int (nI b), .int (nI (ct (ch T kc ko kv k) (b * 16)))]) (rest := []) (cX_pickFromBlock l D ad ca T n kc ko kv k lo hi bw bb q b hIK hN (by omega) (by omega) hE) kX_140 hK hP hS (fun _ h => h) 0 rfl rfl rfl rfl ⟨Nat.le_of_ble_eq_true rfl, Nat.le_of_ble_eq_true rfl⟩ rfl hl.1 rfl (Nat.le_of_ble_eq_true rfl) dX0_pick_23 ⟨Nat.zero_le _, Nat.zero_le _⟩ (fun z23 u23 H locs hp23 hP _ _ hS => ?_)
      obtain ⟨hz23, hE23⟩ := hp23
      subst hz23
      have hP : va_P D c2 (wX ad ca T n kc ko kv k lo hi bw bb u23) H := hP
      refine lv_istore_n (lv' := [(1, .int (nI (ct (ch T kc ko kv k) (min n (b * 16 + 16))))), (2, .int (nI b)), (0, .ref (ad 0))]) E.1 E.2.1 dX0_pick_26 rfl hl (by decide) rfl (fun ls hl => ?_)
      refine lv_iinc (k := 1) (v := nI (b + 1)) (lv' := [(2, .int (nI (b + 1))), (1, .int (nI (ct (ch T kc ko kv k) (min n (b * 16 + 16))))), (0, .ref (ad 0))]) E.1 E.2.1 dX0_pick_27 hl rfl (inc1 _) (by decide) rfl (fun ls hl => ?_)
      refine lv_goto (tgt := 4) E.1 E.2.1 dX0_pick_30 rfl ?_
      exact ih4 (b + 1) (min n (b * 16 + 16)) u23 _ _ _ (⟨by omega, by omega, hE23⟩) (by omega) ⟨hP, hS⟩ (lv_sub hl [0, 1, 2] rfl)
set_option maxHeartbeats 4000000 in
set_option maxRecDepth 100000 in
theorem cX_blocks (l : Launch) (D : va_G) (ad : Nat → Nat) (ca : Nat → ClassId) (T : Nat → Nat → Int64) (n : Nat) (kc ko : Nat → Nat) (kv : Nat → Int64) (k : Nat) (lo hi : Nat → Int64) (bw bb pk : Nat → Nat)  (hIK : iK kc ko k) (hn128 : n ≤ 128) : Met l yX0_blocks (wA yX0_blocks cX0_blocks 3 (some .int)) (rN 2) (va_Pc [.ref (ad 0)] (pW D c2 (tX ca) (wX ad ca T n kc ko kv k lo hi bw bb pk))) (vp_Si (fun z => z = nI (ct (fun b => !po n kc ko kv k lo hi b) ((n + 16 - 1) / 16)))) 0 0 (fun _ => False) := by
  refine met_of RX0 rfl (by decide) (Nat.le_of_ble_eq_true rfl) (fun p e s m below meth cd ls E hr hlk _ hB hl => ?_)
  obtain ⟨hP, hK⟩ := hB
  have hl : lv_has ls 3 [(0, .ref (ad 0))] := hl
  refine lv_iconst (v := nI 0) E.1 E.2.1 dX0_blocks_0 rfl ?_
  refine lv_istore_n (lv' := [(1, .int (nI 0)), (0, .ref (ad 0))]) E.1 E.2.1 dX0_blocks_1 rfl hl (by decide) rfl (fun ls hl => ?_)
  refine lv_iconst (v := nI 0) E.1 E.2.1 dX0_blocks_2 rfl ?_
  refine lv_istore_n (lv' := [(2, .int (nI 0)), (1, .int (nI 0)), (0, .ref (ad 0))]) E.1 E.2.1 dX0_blocks_3 rfl hl (by decide) rfl (fun ls hl => ?_)
  refine w_lp1 (fun (b : Nat) => b ≤ (n + 16 - 1) / 16) (fun (b : Nat) => (n + 16 - 1) / 16 - b) (fun (b : Nat) => [(2, .int (nI b)), (1, .int (nI (ct (fun b => !po n kc ko kv k lo hi b) b))), (0, .ref (ad 0))]) 0 (Nat.zero_le _) (lv_sub hl [0, 1, 2] rfl) (fun b ls hI hl ih4 => ?_)
  have hl : lv_has ls 3 [(2, .int (nI b)), (1, .int (nI (ct (fun b => !po n kc ko kv k lo hi b) b))), (0, .ref (ad 0))] := hl
  refine lv_iload_n E.1 E.2.1 dX0_blocks_4 rfl (lv_at hl 0 rfl) ?_
  refine lv_aload_n E.1 E.2.1 dX0_blocks_5 rfl (lv_at hl 2 rfl) ?_
  refine cV_i E (As := []) (rest := [.int (nI b)]) (cX_startedBlocks l D ad ca T n kc ko kv k lo hi bw bb pk (by omega)) kX_81 hK hP 0 rfl rfl rfl rfl ⟨Nat.le_of_ble_eq_true rfl, Nat.le_of_ble_eq_true rfl⟩ rfl hl.1 rfl (Nat.le_of_ble_eq_true rfl) dX0_blocks_6 ⟨Nat.zero_le _, Nat.zero_le _⟩ ?_
  refine n_icmp_ge (tgt := 29) E dX0_blocks_9 rfl (by omega) (by omega) (fun h9 => ?_) (fun h9 => ?_)
  · skip
    refine lv_iload_n E.1 E.2.1 dX0_blocks_29 rfl (lv_at hl 1 rfl) ?_
    exact e_i E hr hlk (by rw [show (n + 16 - 1) / 16 = b by omega]) dX0_blocks_30
  · skip
    refine lv_aload_n E.1 E.2.1 dX0_blocks_12 rfl (lv_at hl 2 rfl) ?_
    refine lv_iload_n E.1 E.2.1 dX0_blocks_13 rfl (lv_at hl 0 rfl) ?_
    refine cV_i E (As := [.int (nI b)]) (rest := []) (cX_isPassedOver l D ad ca T n kc ko kv k lo hi bw bb pk b hIK (by omega) (by omega)) kX_84 hK hP 0 rfl rfl rfl rfl ⟨Nat.le_of_ble_eq_true rfl, Nat.le_of_ble_eq_true rfl⟩ rfl hl.1 rfl (Nat.le_of_ble_eq_true rfl) dX0_blocks_14 ⟨Nat.zero_le _, Nat.zero_le _⟩ ?_
    refine b_if_ne (tgt := 23) E dX0_blocks_17 rfl (fun h17 => ?_) (fun h17 => ?_)
    · skip
      refine lv_iinc (k := 0) (v := nI (b + 1)) (lv' := [(2, .int (nI (b + 1))), (1, .int (nI (ct (fun b => !po n kc ko kv k lo hi b) b))), (0, .ref (ad 0))]) E.1 E.2.1 dX0_blocks_23 hl rfl (inc1 _) (by decide) rfl (fun ls hl => ?_)
      refine lv_goto (tgt := 4) E.1 E.2.1 dX0_blocks_26 rfl ?_
      rw [← ct_f (p := fun b => !po n kc ko kv k lo hi b) (by rw [h17]; rfl)] at hl
      exact ih4 (b + 1) _ (by omega) (by omega) (lv_sub hl [0, 1, 2] rfl)
    · skip
      refine lv_iinc (k := 1) (v := nI (ct (fun b => !po n kc ko kv k lo hi b) b + 1)) (lv' := [(1, .int (nI (ct (fun b => !po n kc ko kv k lo hi b) b + 1))), (2, .int (nI b)), (0, .ref (ad 0))]) E.1 E.2.1 dX0_blocks_20 hl rfl (inc1 _) (by decide) rfl (fun ls hl => ?_)
      refine lv_iinc (k := 1) (v := nI (b + 1)) (lv' := [(2, .int (nI (b + 1))), (1, .int (nI (ct (fun b => !po n kc ko kv k lo hi b) b + 1))), (0, .ref (ad 0))]) E.1 E.2.1 dX0_blocks_23 hl rfl (inc1 _) (by decide) rfl (fun ls hl => ?_)
      refine lv_goto (tgt := 4) E.1 E.2.1 dX0_blocks_26 rfl ?_
      rw [← ct_t (p := fun b => !po n kc ko kv k lo hi b) (by rw [h17]; rfl)] at hl
      exact ih4 (b + 1) _ (by omega) (by omega) (lv_sub hl [0, 1, 2] rfl)
set_option maxHeartbeats 4000000 in
set_option maxRecDepth 100000 in
theorem cX_rows (l : Launch) (D : va_G) (ad : Nat → Nat) (ca : Nat → ClassId) (T : Nat → Nat → Int64) (n : Nat) (kc ko : Nat → Nat) (kv : Nat → Int64) (k : Nat) (lo hi : Nat → Int64) (bw bb pk : Nat → Nat)   : Met l yX0_rows (wA yX0_rows cX0_rows 1 (some .int)) (rN 0) (va_Pc [.ref (ad 0)] (pW D c2 (tX ca) (wX ad ca T n kc ko kv k lo hi bw bb pk))) (vp_Si (fun z => z = nI n)) 0 0 (fun _ => False) := by
  refine met_of RX0 rfl (by decide) (Nat.le_of_ble_eq_true rfl) (fun p e s m below meth cd ls E hr hlk _ hB hl => ?_)
  obtain ⟨hP, hK⟩ := hB
  have hl : lv_has ls 1 [(0, .ref (ad 0))] := hl
  refine lv_aload_n E.1 E.2.1 dX0_rows_0 rfl (lv_at hl 0 rfl) ?_
  refine n_get E inX hK hP 0 rfl rfl 1 (by decide) flX_13 rfl rfl dX0_rows_1 ?_
  exact e_i E hr hlk rfl dX0_rows_4
set_option maxHeartbeats 4000000 in
set_option maxRecDepth 100000 in
theorem cX_all (l : Launch) (D : va_G) (ad : Nat → Nat) (ca : Nat → ClassId) (T : Nat → Nat → Int64) (n : Nat) (kc ko : Nat → Nat) (kv : Nat → Int64) (k : Nat) (lo hi : Nat → Int64) (bw bb pk : Nat → Nat)  (hN : inj ad 10) : Met l yX0_all (wA yX0_all cX0_all 2 (some .int)) (rN 0) (va_Pc [.ref (ad 0)] (pW D c2 (tX ca) (wX ad ca T n kc ko kv k lo hi bw bb pk))) (qI (fun z (_ : Unit) => z = nI k) D c2 (fun _ => wX ad ca T n kc ko kv 0 lo hi bw bb pk) (fA ad 10)) 0 0 (fA ad 10) := by
  refine met_of RX0 rfl (by decide) (Nat.le_of_ble_eq_true rfl) (fun p e s m below meth cd ls E hr hlk _ hB hl => ?_)
  obtain ⟨hP, hK⟩ := hB
  have hl : lv_has ls 2 [(0, .ref (ad 0))] := hl
  have hS : va_S (fA ad 10) s.heap s.heap [] := va_S.rf
  refine lv_aload_n E.1 E.2.1 dX0_all_0 rfl (lv_at hl 0 rfl) ?_
  refine n_get E inX hK hP 0 rfl rfl 5 (by decide) flX_27 rfl rfl dX0_all_1 ?_
  refine lv_istore_n (lv' := [(1, .int (nI k)), (0, .ref (ad 0))]) E.1 E.2.1 dX0_all_4 rfl hl (by decide) rfl (fun ls hl => ?_)
  refine lv_aload_n E.1 E.2.1 dX0_all_5 rfl (lv_at hl 1 rfl) ?_
  refine lv_iconst (v := nI 0) E.1 E.2.1 dX0_all_6 rfl ?_
  refine n_put E inX tyX0 tyX0_ok nmX0 hK hP (dW hN rfl) hS 0 rfl rfl 5 (by decide) flX_27 rfl rfl (tyX0_ok 5 (by decide)) (Nat.le_of_ble_eq_true rfl) dX0_all_7 (fun H locs hP hS => ?_)
  have hP : va_P D c2 (wX ad ca T n kc ko kv 0 lo hi bw bb pk) H := hP
  refine lv_iload_n E.1 E.2.1 dX0_all_10 rfl (lv_at hl 0 rfl) ?_
  exact e_wi E hr hlk hS () rfl hP dX0_all_11
set_option maxHeartbeats 4000000 in
set_option maxRecDepth 100000 in
theorem cX_chosen (l : Launch) (D : va_G) (ad : Nat → Nat) (ca : Nat → ClassId) (T : Nat → Nat → Int64) (n : Nat) (kc ko : Nat → Nat) (kv : Nat → Int64) (k : Nat) (lo hi : Nat → Int64) (bw bb pk : Nat → Nat)  (hIK : iK kc ko k) (hN : inj ad 10) (hn128 : n ≤ 128) (hiB : iB T n lo hi) : Met l yX0_chosen (wA yX0_chosen cX0_chosen 1 (some .int)) (rN 4) (va_Pc [.ref (ad 0)] (pW D c2 (tX ca) (wX ad ca T n kc ko kv k lo hi bw bb pk))) (qI (fun z (q : Nat → Nat) => z = nI (ct (ch T kc ko kv k) n) ∧ En q (ch T kc ko kv k) n) D c2 (fun q => wX ad ca T n kc ko kv k lo hi bw bb q) (fA ad 10)) 0 0 (fA ad 10) := by
  refine met_of RX0 rfl (by decide) (Nat.le_of_ble_eq_true rfl) (fun p e s m below meth cd ls E hr hlk _ hB hl => ?_)
  obtain ⟨hP, hK⟩ := hB
  have hl : lv_has ls 1 [(0, .ref (ad 0))] := hl
  have hS : va_S (fA ad 10) s.heap s.heap [] := va_S.rf
  refine lv_aload_n E.1 E.2.1 dX0_chosen_0 rfl (lv_at hl 0 rfl) ?_
  refine cV_wi E (As := []) (rest := []) (cX_pick l D ad ca T n kc ko kv k lo hi bw bb pk hIK hN hn128 hiB) kX_75 hK hP hS (fun _ h => h) 0 rfl rfl rfl rfl ⟨Nat.le_of_ble_eq_true rfl, Nat.le_of_ble_eq_true rfl⟩ rfl hl.1 rfl (Nat.le_of_ble_eq_true rfl) dX0_chosen_1 ⟨Nat.zero_le _, Nat.zero_le _⟩ (fun z1 u1 H locs hp1 hP _ _ hS => ?_)
  obtain ⟨hz1, hE1⟩ := hp1
  subst hz1
  have hP : va_P D c2 (wX ad ca T n kc ko kv k lo hi bw bb u1) H := hP
  exact e_wi E hr hlk hS u1 (⟨rfl, hE1⟩) hP dX0_chosen_4
end
section
/-! Contracts of the hall: laid by program (wip/whole/gen.py). -/
set_option maxHeartbeats 4000000 in
set_option maxRecDepth 100000 in
theorem cX_widthOf (l : Launch) (x : Int64)  : Met l yX0_widthOf (wA yX0_widthOf cX0_widthOf 3 (some .int)) (rN 0) (va_Pc [.long x] (fun _ => True)) (vp_Si (fun z => z = nI (wd x))) 0 0 (fun _ => False) := by
  refine met_of RX0 rfl (by decide) (Nat.le_of_ble_eq_true rfl) (fun p e s m below meth cd ls E hr hlk _ hB hl => ?_)
  have hl : lv_has ls 3 [(0, .long x)] := hl
  refine lv_iconst (v := nI 0) E.1 E.2.1 dX0_widthOf_0 rfl ?_
  refine lv_istore_n (lv' := [(2, .int (nI 0)), (0, .long x)]) E.1 E.2.1 dX0_widthOf_1 rfl hl (by decide) rfl (fun ls hl => ?_)
  refine w_lp1 (fun (w : Nat) => w ≤ 64 ∧ w ≤ wd x) (fun (w : Nat) => 64 - w) (fun (w : Nat) => [(2, .int (nI w)), (0, .long x)]) 0 (⟨by omega, Nat.zero_le _⟩) (lv_sub hl [0, 1] rfl) (fun w ls hI hl ih2 => ?_)
  have hl : lv_has ls 3 [(2, .int (nI w)), (0, .long x)] := hl
  obtain ⟨hw1, hw2⟩ := hI
  refine lv_iload_n E.1 E.2.1 dX0_widthOf_2 rfl (lv_at hl 0 rfl) ?_
  refine lv_bipush (v := nI 64) E.1 E.2.1 dX0_widthOf_3 rfl ?_
  refine n_icmp_ge (tgt := 22) E dX0_widthOf_5 rfl (by omega) (by omega) (fun h5 => ?_) (fun h5 => ?_)
  · skip
    refine lv_iload_n E.1 E.2.1 dX0_widthOf_22 rfl (lv_at hl 0 rfl) ?_
    exact e_i E hr hlk (by have h64 := wd_le64 x; rw [show wd x = w by omega]) dX0_widthOf_23
  · skip
    refine lv_lload_n E.1 E.2.1 dX0_widthOf_8 rfl (lv_at hl 1 rfl) ?_
    refine lv_iload_n E.1 E.2.1 dX0_widthOf_9 rfl (lv_at hl 0 rfl) ?_
    refine lv_lushr E.1 E.2.1 dX0_widthOf_10 rfl ?_
    refine lv_lconst (v := 0) E.1 E.2.1 dX0_widthOf_11 rfl ?_
    refine l_if_eq (tgt := 22) E dX0_widthOf_12 dX0_widthOf_13 rfl (fun h12 => ?_) (fun h12 => ?_)
    · skip
      refine lv_iload_n E.1 E.2.1 dX0_widthOf_22 rfl (lv_at hl 0 rfl) ?_
      exact e_i E hr hlk (by have h64 := wd_le64 x; have hs := (wd_sh x h5).mp h12; rw [show wd x = w by omega]) dX0_widthOf_23
    · skip
      refine lv_iinc (k := 0) (v := nI (w + 1)) (lv' := [(2, .int (nI (w + 1))), (0, .long x)]) E.1 E.2.1 dX0_widthOf_16 hl rfl (inc1 _) (by decide) rfl (fun ls hl => ?_)
      refine lv_goto (tgt := 2) E.1 E.2.1 dX0_widthOf_19 rfl ?_
      exact ih2 (w + 1) _ (⟨by omega, Nat.not_le.mp (fun q => h12 ((wd_sh x h5).mpr q))⟩) (by omega) (lv_sub hl [0, 1] rfl)
set_option maxHeartbeats 4000000 in
set_option maxRecDepth 100000 in
theorem cX_stoodBefore (l : Launch) (D : va_G) (ad : Nat → Nat) (ca : Nat → ClassId) (T : Nat → Nat → Int64) (n : Nat) (kc ko : Nat → Nat) (kv : Nat → Int64) (k : Nat) (lo hi : Nat → Int64) (bw bb pk : Nat → Nat) (b c a : Nat) (hb0 : b < 8) (hc0 : c < 4) (ha0 : a < 16) : Met l yX0_stoodBefore (wA yX0_stoodBefore cX0_stoodBefore 4 (some .boolean)) (rN 0) (va_Pc [.ref (ad 0), .int (nI (c * 128 + 16 * b)), .int (nI (c * 128 + 16 * b + a))] (pW D c2 (tX ca) (wX ad ca T n kc ko kv k lo hi bw bb pk))) (vp_Si (fun z => z = bI (sb (xb T b c) a))) 0 0 (fun _ => False) := by
  refine met_of RX0 rfl (by decide) (Nat.le_of_ble_eq_true rfl) (fun p e s m below meth cd ls E hr hlk _ hB hl => ?_)
  obtain ⟨hP, hK⟩ := hB
  have hl : lv_has ls 4 [(0, .ref (ad 0)), (1, .int (nI (c * 128 + 16 * b))), (2, .int (nI (c * 128 + 16 * b + a)))] := hl
  refine lv_iload_n E.1 E.2.1 dX0_stoodBefore_0 rfl (lv_at hl 1 rfl) ?_
  refine lv_istore_n (lv' := [(3, .int (nI (c * 128 + 16 * b))), (0, .ref (ad 0)), (1, .int (nI (c * 128 + 16 * b))), (2, .int (nI (c * 128 + 16 * b + a)))]) E.1 E.2.1 dX0_stoodBefore_1 rfl hl (by decide) rfl (fun ls hl => ?_)
  refine w_lp1 (fun (j : Nat) => j ≤ a ∧ al (fun i => !decide (xb T b c i = xb T b c a)) j = true) (fun (j : Nat) => a - j) (fun (j : Nat) => [(3, .int (nI (c * 128 + 16 * b + j))), (0, .ref (ad 0)), (1, .int (nI (c * 128 + 16 * b))), (2, .int (nI (c * 128 + 16 * b + a)))]) 0 (⟨Nat.zero_le _, rfl⟩) (lv_sub hl [0, 1, 2, 3] rfl) (fun j ls hI hl ih2 => ?_)
  have hl : lv_has ls 4 [(3, .int (nI (c * 128 + 16 * b + j))), (0, .ref (ad 0)), (1, .int (nI (c * 128 + 16 * b))), (2, .int (nI (c * 128 + 16 * b + a)))] := hl
  obtain ⟨hj, hc⟩ := hI
  refine lv_iload_n E.1 E.2.1 dX0_stoodBefore_2 rfl (lv_at hl 0 rfl) ?_
  refine lv_iload_n E.1 E.2.1 dX0_stoodBefore_3 rfl (lv_at hl 3 rfl) ?_
  refine n_icmp_ge (tgt := 31) E dX0_stoodBefore_4 rfl (by omega) (by omega) (fun h4 => ?_) (fun h4 => ?_)
  · skip
    refine lv_iconst (v := nI 0) E.1 E.2.1 dX0_stoodBefore_31 rfl ?_
    exact e_z E hr hlk (show _ = _ from congrArg bI (show false = _ from by rw [sb, show a = j by omega]; rw [show a = j by omega] at hc; rw [hc]; rfl)) dX0_stoodBefore_32
  · skip
    refine lv_aload_n E.1 E.2.1 dX0_stoodBefore_7 rfl (lv_at hl 1 rfl) ?_
    refine n_get E inX hK hP 0 rfl rfl 0 (by decide) flX_9 rfl rfl dX0_stoodBefore_8 ?_
    refine lv_iload_n E.1 E.2.1 dX0_stoodBefore_11 rfl (lv_at hl 0 rfl) ?_
    refine n_cald E hK hP 1 0 rfl rfl (16 * b + j) c (by omega) (by omega) (by omega) dX0_stoodBefore_12 ?_
    refine lv_aload_n E.1 E.2.1 dX0_stoodBefore_13 rfl (lv_at hl 1 rfl) ?_
    refine n_get E inX hK hP 0 rfl rfl 0 (by decide) flX_9 rfl rfl dX0_stoodBefore_14 ?_
    refine lv_iload_n E.1 E.2.1 dX0_stoodBefore_17 rfl (lv_at hl 3 rfl) ?_
    refine n_cald E hK hP 1 0 rfl rfl (16 * b + a) c (by omega) (by omega) (by omega) dX0_stoodBefore_18 ?_
    refine l_if_ne (tgt := 25) E dX0_stoodBefore_19 dX0_stoodBefore_20 rfl (fun h19 => ?_) (fun h19 => ?_)
    · skip
      refine lv_iinc (k := 0) (v := nI (c * 128 + 16 * b + j + 1)) (lv' := [(3, .int (nI (c * 128 + 16 * b + j + 1))), (0, .ref (ad 0)), (1, .int (nI (c * 128 + 16 * b))), (2, .int (nI (c * 128 + 16 * b + a)))]) E.1 E.2.1 dX0_stoodBefore_25 hl rfl (inc1 _) (by decide) rfl (fun ls hl => ?_)
      refine lv_goto (tgt := 2) E.1 E.2.1 dX0_stoodBefore_28 rfl ?_
      exact ih2 (j + 1) _ (⟨by omega, al_s hc (nd_f h19)⟩) (by omega) (lv_sub hl [0, 1, 2, 3] rfl)
    · skip
      refine lv_iconst (v := nI 1) E.1 E.2.1 dX0_stoodBefore_23 rfl ?_
      exact e_z E hr hlk (show _ = _ from congrArg bI (show true = _ from by rw [sb, al_false (j := j) (by omega) (nd_t h19)]; rfl)) dX0_stoodBefore_24
set_option maxHeartbeats 4000000 in
set_option maxRecDepth 100000 in
theorem cX_differentCells (l : Launch) (D : va_G) (ad : Nat → Nat) (ca : Nat → ClassId) (T : Nat → Nat → Int64) (n : Nat) (kc ko : Nat → Nat) (kv : Nat → Int64) (k : Nat) (lo hi : Nat → Int64) (bw bb pk : Nat → Nat) (b c : Nat) (hb0 : b < 8) (hc0 : c < 4) : Met l yX0_differentCells (wA yX0_differentCells cX0_differentCells 4 (some .int)) (rN 1) (va_Pc [.ref (ad 0), .int (nI (c * 128 + 16 * b))] (pW D c2 (tX ca) (wX ad ca T n kc ko kv k lo hi bw bb pk))) (vp_Si (fun z => z = nI (wds (xb T b c)))) 0 0 (fun _ => False) := by
  refine met_of RX0 rfl (by decide) (Nat.le_of_ble_eq_true rfl) (fun p e s m below meth cd ls E hr hlk _ hB hl => ?_)
  obtain ⟨hP, hK⟩ := hB
  have hl : lv_has ls 4 [(0, .ref (ad 0)), (1, .int (nI (c * 128 + 16 * b)))] := hl
  refine lv_iconst (v := nI 0) E.1 E.2.1 dX0_differentCells_0 rfl ?_
  refine lv_istore_n (lv' := [(2, .int (nI 0)), (0, .ref (ad 0)), (1, .int (nI (c * 128 + 16 * b)))]) E.1 E.2.1 dX0_differentCells_1 rfl hl (by decide) rfl (fun ls hl => ?_)
  refine lv_iload_n E.1 E.2.1 dX0_differentCells_2 rfl (lv_at hl 2 rfl) ?_
  refine lv_istore_n (lv' := [(3, .int (nI (c * 128 + 16 * b))), (2, .int (nI 0)), (0, .ref (ad 0)), (1, .int (nI (c * 128 + 16 * b)))]) E.1 E.2.1 dX0_differentCells_3 rfl hl (by decide) rfl (fun ls hl => ?_)
  refine w_lp1 (fun (j : Nat) => j ≤ 16) (fun (j : Nat) => 16 - j) (fun (j : Nat) => [(3, .int (nI (c * 128 + 16 * b + j))), (2, .int (nI (ct (fun j => !sb (xb T b c) j) j))), (0, .ref (ad 0)), (1, .int (nI (c * 128 + 16 * b)))]) 0 (Nat.zero_le _) (lv_sub hl [0, 1, 2, 3] rfl) (fun j ls hI hl ih4 => ?_)
  have hl : lv_has ls 4 [(3, .int (nI (c * 128 + 16 * b + j))), (2, .int (nI (ct (fun j => !sb (xb T b c) j) j))), (0, .ref (ad 0)), (1, .int (nI (c * 128 + 16 * b)))] := hl
  refine lv_iload_n E.1 E.2.1 dX0_differentCells_4 rfl (lv_at hl 0 rfl) ?_
  refine lv_iload_n E.1 E.2.1 dX0_differentCells_5 rfl (lv_at hl 3 rfl) ?_
  refine lv_bipush (v := nI 16) E.1 E.2.1 dX0_differentCells_6 rfl ?_
  refine n_iadd E dX0_differentCells_8 ?_
  refine n_icmp_ge (tgt := 30) E dX0_differentCells_9 rfl (by omega) (by omega) (fun h9 => ?_) (fun h9 => ?_)
  · skip
    refine lv_iload_n E.1 E.2.1 dX0_differentCells_30 rfl (lv_at hl 1 rfl) ?_
    exact e_i E hr hlk (by rw [wds, show 16 = j by omega]) dX0_differentCells_31
  · skip
    have hq := ct_le (fun j => !sb (xb T b c) j) j
    refine lv_aload_n E.1 E.2.1 dX0_differentCells_12 rfl (lv_at hl 2 rfl) ?_
    refine lv_iload_n E.1 E.2.1 dX0_differentCells_13 rfl (lv_at hl 3 rfl) ?_
    refine lv_iload_n E.1 E.2.1 dX0_differentCells_14 rfl (lv_at hl 0 rfl) ?_
    refine cV_i E (As := [.int (nI (c * 128 + 16 * b)), .int (nI (c * 128 + 16 * b + j))]) (rest := []) (cX_stoodBefore l D ad ca T n kc ko kv k lo hi bw bb pk b c j (by omega) (by omega) (by omega)) kX_186 hK hP 0 rfl rfl rfl rfl ⟨Nat.le_of_ble_eq_true rfl, Nat.le_of_ble_eq_true rfl⟩ rfl hl.1 rfl (Nat.le_of_ble_eq_true rfl) dX0_differentCells_15 ⟨Nat.zero_le _, Nat.zero_le _⟩ ?_
    refine b_if_ne (tgt := 24) E dX0_differentCells_18 rfl (fun h18 => ?_) (fun h18 => ?_)
    · skip
      refine lv_iinc (k := 0) (v := nI (c * 128 + 16 * b + j + 1)) (lv' := [(3, .int (nI (c * 128 + 16 * b + j + 1))), (2, .int (nI (ct (fun j => !sb (xb T b c) j) j))), (0, .ref (ad 0)), (1, .int (nI (c * 128 + 16 * b)))]) E.1 E.2.1 dX0_differentCells_24 hl rfl (inc1 _) (by decide) rfl (fun ls hl => ?_)
      refine lv_goto (tgt := 4) E.1 E.2.1 dX0_differentCells_27 rfl ?_
      rw [← ct_f (p := fun j => !sb (xb T b c) j) (by rw [h18]; rfl)] at hl
      exact ih4 (j + 1) _ (by omega) (by omega) (lv_sub hl [0, 1, 2, 3] rfl)
    · skip
      refine lv_iinc (k := 1) (v := nI (ct (fun j => !sb (xb T b c) j) j + 1)) (lv' := [(2, .int (nI (ct (fun j => !sb (xb T b c) j) j + 1))), (3, .int (nI (c * 128 + 16 * b + j))), (0, .ref (ad 0)), (1, .int (nI (c * 128 + 16 * b)))]) E.1 E.2.1 dX0_differentCells_21 hl rfl (inc1 _) (by decide) rfl (fun ls hl => ?_)
      refine lv_iinc (k := 1) (v := nI (c * 128 + 16 * b + j + 1)) (lv' := [(3, .int (nI (c * 128 + 16 * b + j + 1))), (2, .int (nI (ct (fun j => !sb (xb T b c) j) j + 1))), (0, .ref (ad 0)), (1, .int (nI (c * 128 + 16 * b)))]) E.1 E.2.1 dX0_differentCells_24 hl rfl (inc1 _) (by decide) rfl (fun ls hl => ?_)
      refine lv_goto (tgt := 4) E.1 E.2.1 dX0_differentCells_27 rfl ?_
      rw [← ct_t (p := fun j => !sb (xb T b c) j) (by rw [h18]; rfl)] at hl
      exact ih4 (j + 1) _ (by omega) (by omega) (lv_sub hl [0, 1, 2, 3] rfl)
set_option maxHeartbeats 4000000 in
set_option maxRecDepth 100000 in
theorem cX_runsOfCells (l : Launch) (D : va_G) (ad : Nat → Nat) (ca : Nat → ClassId) (T : Nat → Nat → Int64) (n : Nat) (kc ko : Nat → Nat) (kv : Nat → Int64) (k : Nat) (lo hi : Nat → Int64) (bw bb pk : Nat → Nat) (b c : Nat) (hb0 : b < 8) (hc0 : c < 4) : Met l yX0_runsOfCells (wA yX0_runsOfCells cX0_runsOfCells 4 (some .int)) (rN 0) (va_Pc [.ref (ad 0), .int (nI (c * 128 + 16 * b))] (pW D c2 (tX ca) (wX ad ca T n kc ko kv k lo hi bw bb pk))) (vp_Si (fun z => z = nI (rns (xb T b c)))) 0 0 (fun _ => False) := by
  refine met_of RX0 rfl (by decide) (Nat.le_of_ble_eq_true rfl) (fun p e s m below meth cd ls E hr hlk _ hB hl => ?_)
  obtain ⟨hP, hK⟩ := hB
  have hl : lv_has ls 4 [(0, .ref (ad 0)), (1, .int (nI (c * 128 + 16 * b)))] := hl
  refine lv_iconst (v := nI 1) E.1 E.2.1 dX0_runsOfCells_0 rfl ?_
  refine lv_istore_n (lv' := [(2, .int (nI 1)), (0, .ref (ad 0)), (1, .int (nI (c * 128 + 16 * b)))]) E.1 E.2.1 dX0_runsOfCells_1 rfl hl (by decide) rfl (fun ls hl => ?_)
  refine lv_iload_n E.1 E.2.1 dX0_runsOfCells_2 rfl (lv_at hl 2 rfl) ?_
  refine lv_iconst (v := nI 1) E.1 E.2.1 dX0_runsOfCells_3 rfl ?_
  refine n_iadd E dX0_runsOfCells_4 ?_
  refine lv_istore_n (lv' := [(3, .int (nI (c * 128 + 16 * b + 1))), (2, .int (nI 1)), (0, .ref (ad 0)), (1, .int (nI (c * 128 + 16 * b)))]) E.1 E.2.1 dX0_runsOfCells_5 rfl hl (by decide) rfl (fun ls hl => ?_)
  refine w_lp1 (fun (j : Nat) => j ≤ 15) (fun (j : Nat) => 15 - j) (fun (j : Nat) => [(3, .int (nI (c * 128 + 16 * b + 1 + j))), (2, .int (nI (1 + ct (fun j => !decide (xb T b c (j + 1) = xb T b c j)) j))), (0, .ref (ad 0)), (1, .int (nI (c * 128 + 16 * b)))]) 0 (Nat.zero_le _) (lv_sub hl [0, 1, 2, 3] rfl) (fun j ls hI hl ih6 => ?_)
  have hl : lv_has ls 4 [(3, .int (nI (c * 128 + 16 * b + 1 + j))), (2, .int (nI (1 + ct (fun j => !decide (xb T b c (j + 1) = xb T b c j)) j))), (0, .ref (ad 0)), (1, .int (nI (c * 128 + 16 * b)))] := hl
  refine lv_iload_n E.1 E.2.1 dX0_runsOfCells_6 rfl (lv_at hl 0 rfl) ?_
  refine lv_iload_n E.1 E.2.1 dX0_runsOfCells_7 rfl (lv_at hl 3 rfl) ?_
  refine lv_bipush (v := nI 16) E.1 E.2.1 dX0_runsOfCells_8 rfl ?_
  refine n_iadd E dX0_runsOfCells_10 ?_
  refine n_icmp_ge (tgt := 41) E dX0_runsOfCells_11 rfl (by omega) (by omega) (fun h11 => ?_) (fun h11 => ?_)
  · skip
    refine lv_iload_n E.1 E.2.1 dX0_runsOfCells_41 rfl (lv_at hl 1 rfl) ?_
    exact e_i E hr hlk (by rw [rns, show 15 = j by omega]) dX0_runsOfCells_42
  · skip
    have hq := ct_le (fun j => !decide (xb T b c (j + 1) = xb T b c j)) j
    refine lv_aload_n E.1 E.2.1 dX0_runsOfCells_14 rfl (lv_at hl 2 rfl) ?_
    refine n_get E inX hK hP 0 rfl rfl 0 (by decide) flX_9 rfl rfl dX0_runsOfCells_15 ?_
    refine lv_iload_n E.1 E.2.1 dX0_runsOfCells_18 rfl (lv_at hl 0 rfl) ?_
    refine n_cald E hK hP 1 0 rfl rfl (16 * b + (j + 1)) c (by omega) (by omega) (by omega) dX0_runsOfCells_19 ?_
    refine lv_aload_n E.1 E.2.1 dX0_runsOfCells_20 rfl (lv_at hl 2 rfl) ?_
    refine n_get E inX hK hP 0 rfl rfl 0 (by decide) flX_9 rfl rfl dX0_runsOfCells_21 ?_
    refine lv_iload_n E.1 E.2.1 dX0_runsOfCells_24 rfl (lv_at hl 0 rfl) ?_
    refine lv_iconst (v := nI 1) E.1 E.2.1 dX0_runsOfCells_25 rfl ?_
    refine n_isub E (by omega) dX0_runsOfCells_26 ?_
    refine n_cald E hK hP 1 0 rfl rfl (16 * b + j) c (by omega) (by omega) (by omega) dX0_runsOfCells_27 ?_
    refine l_if_eq (tgt := 35) E dX0_runsOfCells_28 dX0_runsOfCells_29 rfl (fun h28 => ?_) (fun h28 => ?_)
    · skip
      refine lv_iinc (k := 0) (v := nI (c * 128 + 16 * b + 1 + j + 1)) (lv' := [(3, .int (nI (c * 128 + 16 * b + 1 + j + 1))), (2, .int (nI (1 + ct (fun j => !decide (xb T b c (j + 1) = xb T b c j)) j))), (0, .ref (ad 0)), (1, .int (nI (c * 128 + 16 * b)))]) E.1 E.2.1 dX0_runsOfCells_35 hl rfl (inc1 _) (by decide) rfl (fun ls hl => ?_)
      refine lv_goto (tgt := 6) E.1 E.2.1 dX0_runsOfCells_38 rfl ?_
      rw [← ct_f (p := fun j => !decide (xb T b c (j + 1) = xb T b c j)) (nd_t h28)] at hl
      exact ih6 (j + 1) _ (by omega) (by omega) (lv_sub hl [0, 1, 2, 3] rfl)
    · skip
      refine lv_iinc (k := 1) (v := nI (1 + ct (fun j => !decide (xb T b c (j + 1) = xb T b c j)) j + 1)) (lv' := [(2, .int (nI (1 + ct (fun j => !decide (xb T b c (j + 1) = xb T b c j)) j + 1))), (3, .int (nI (c * 128 + 16 * b + 1 + j))), (0, .ref (ad 0)), (1, .int (nI (c * 128 + 16 * b)))]) E.1 E.2.1 dX0_runsOfCells_32 hl rfl (inc1 _) (by decide) rfl (fun ls hl => ?_)
      refine lv_iinc (k := 1) (v := nI (c * 128 + 16 * b + 1 + j + 1)) (lv' := [(3, .int (nI (c * 128 + 16 * b + 1 + j + 1))), (2, .int (nI (1 + ct (fun j => !decide (xb T b c (j + 1) = xb T b c j)) j + 1))), (0, .ref (ad 0)), (1, .int (nI (c * 128 + 16 * b)))]) E.1 E.2.1 dX0_runsOfCells_35 hl rfl (inc1 _) (by decide) rfl (fun ls hl => ?_)
      refine lv_goto (tgt := 6) E.1 E.2.1 dX0_runsOfCells_38 rfl ?_
      rw [Nat.add_assoc 1, ← ct_t (p := fun j => !decide (xb T b c (j + 1) = xb T b c j)) (nd_f h28)] at hl
      exact ih6 (j + 1) _ (by omega) (by omega) (lv_sub hl [0, 1, 2, 3] rfl)
set_option maxHeartbeats 4000000 in
set_option maxRecDepth 100000 in
theorem cX_noteBounds (l : Launch) (D : va_G) (ad : Nat → Nat) (ca : Nat → ClassId) (T : Nat → Nat → Int64) (n : Nat) (kc ko : Nat → Nat) (kv : Nat → Int64) (k : Nat) (lo hi : Nat → Int64) (bw bb pk : Nat → Nat) (b c : Nat) (hN : inj ad 10) (hb0 : b < 8) (hc0 : c < 4) : Met l yX0_noteBounds (wA yX0_noteBounds cX0_noteBounds 8 none) (rN 1) (va_Pc [.ref (ad 0), .int (nI (c * 128 + 16 * b)), .int (nI (b * 4 + c))] (pW D c2 (tX ca) (wX ad ca T n kc ko kv k lo hi bw bb pk))) (qV (fun (_ : Unit) => True) D c2 (fun _ => wX ad ca T n kc ko kv k (fS lo (b * 4 + c) (mn (xb T b c) 15)) (fS hi (b * 4 + c) (mx (xb T b c) 15)) bw bb pk) (fA ad 10)) 0 0 (fA ad 10) := by
  refine met_of RX0 rfl (by decide) (Nat.le_of_ble_eq_true rfl) (fun p e s m below meth cd ls E hr hlk _ hB hl => ?_)
  obtain ⟨hP, hK⟩ := hB
  have hl : lv_has ls 8 [(0, .ref (ad 0)), (1, .int (nI (c * 128 + 16 * b))), (2, .int (nI (b * 4 + c)))] := hl
  have hS : va_S (fA ad 10) s.heap s.heap [] := va_S.rf
  refine lv_aload_n E.1 E.2.1 dX0_noteBounds_0 rfl (lv_at hl 0 rfl) ?_
  refine n_get E inX hK hP 0 rfl rfl 0 (by decide) flX_9 rfl rfl dX0_noteBounds_1 ?_
  refine lv_iload_n E.1 E.2.1 dX0_noteBounds_4 rfl (lv_at hl 1 rfl) ?_
  refine n_cald E hK hP 1 0 rfl rfl (16 * b + 0) c (by omega) (by omega) (by omega) dX0_noteBounds_5 ?_
  refine lv_lstore_n (lv' := [(3, .long (T (16 * b + 0) c)), (0, .ref (ad 0)), (1, .int (nI (c * 128 + 16 * b))), (2, .int (nI (b * 4 + c)))]) E.1 E.2.1 dX0_noteBounds_6 rfl hl (by decide) rfl (fun ls hl => ?_)
  refine lv_aload_n E.1 E.2.1 dX0_noteBounds_7 rfl (lv_at hl 1 rfl) ?_
  refine n_get E inX hK hP 0 rfl rfl 0 (by decide) flX_9 rfl rfl dX0_noteBounds_8 ?_
  refine lv_iload_n E.1 E.2.1 dX0_noteBounds_11 rfl (lv_at hl 2 rfl) ?_
  refine n_cald E hK hP 1 0 rfl rfl (16 * b + 0) c (by omega) (by omega) (by omega) dX0_noteBounds_12 ?_
  refine lv_lstore (lv' := [(5, .long (T (16 * b + 0) c)), (3, .long (T (16 * b + 0) c)), (0, .ref (ad 0)), (1, .int (nI (c * 128 + 16 * b))), (2, .int (nI (b * 4 + c)))]) E.1 E.2.1 dX0_noteBounds_13 hl (by decide) rfl (fun ls hl => ?_)
  refine lv_iload_n E.1 E.2.1 dX0_noteBounds_15 rfl (lv_at hl 3 rfl) ?_
  refine lv_iconst (v := nI 1) E.1 E.2.1 dX0_noteBounds_16 rfl ?_
  refine n_iadd E dX0_noteBounds_17 ?_
  refine lv_istore (lv' := [(7, .int (nI (c * 128 + 16 * b + 1))), (5, .long (T (16 * b + 0) c)), (3, .long (T (16 * b + 0) c)), (0, .ref (ad 0)), (1, .int (nI (c * 128 + 16 * b))), (2, .int (nI (b * 4 + c)))]) E.1 E.2.1 dX0_noteBounds_18 hl (by decide) rfl (fun ls hl => ?_)
  refine w_lp1 (fun (j : Nat) => j ≤ 15) (fun (j : Nat) => 15 - j) (fun (j : Nat) => [(7, .int (nI (c * 128 + 16 * b + 1 + j))), (5, .long (mx (xb T b c) j)), (3, .long (mn (xb T b c) j)), (0, .ref (ad 0)), (1, .int (nI (c * 128 + 16 * b))), (2, .int (nI (b * 4 + c)))]) 0 (Nat.zero_le _) (lv_sub hl [0, 1, 2, 3, 4, 5] rfl) (fun j ls hI hl ih20 => ?_)
  have hl : lv_has ls 8 [(7, .int (nI (c * 128 + 16 * b + 1 + j))), (5, .long (mx (xb T b c) j)), (3, .long (mn (xb T b c) j)), (0, .ref (ad 0)), (1, .int (nI (c * 128 + 16 * b))), (2, .int (nI (b * 4 + c)))] := hl
  refine lv_iload E.1 E.2.1 dX0_noteBounds_20 (lv_at hl 0 rfl) ?_
  refine lv_iload_n E.1 E.2.1 dX0_noteBounds_22 rfl (lv_at hl 4 rfl) ?_
  refine lv_bipush (v := nI 16) E.1 E.2.1 dX0_noteBounds_23 rfl ?_
  refine n_iadd E dX0_noteBounds_25 ?_
  refine n_icmp_ge (tgt := 61) E dX0_noteBounds_26 rfl (by omega) (by omega) (fun h26 => ?_) (fun h26 => ?_)
  · skip
    refine lv_aload_n E.1 E.2.1 dX0_noteBounds_61 rfl (lv_at hl 3 rfl) ?_
    refine n_get E inX hK hP 0 rfl rfl 6 (by decide) flX_30 rfl rfl dX0_noteBounds_62 ?_
    refine lv_iload_n E.1 E.2.1 dX0_noteBounds_65 rfl (lv_at hl 5 rfl) ?_
    refine lv_lload_n E.1 E.2.1 dX0_noteBounds_66 rfl (lv_at hl 2 rfl) ?_
    refine n_last E hK hP (dW hN rfl) hS 5 4 rfl rfl (by decide) (by omega) dX0_noteBounds_67 (fun H locs hP hS => ?_)
    have hP : va_P D c2 (wX ad ca T n kc ko kv k (fS lo (b * 4 + c) (mn (xb T b c) j)) hi bw bb pk) H := hP
    refine lv_aload_n E.1 E.2.1 dX0_noteBounds_68 rfl (lv_at hl 3 rfl) ?_
    refine n_get E inX hK hP 0 rfl rfl 7 (by decide) flX_33 rfl rfl dX0_noteBounds_69 ?_
    refine lv_iload_n E.1 E.2.1 dX0_noteBounds_72 rfl (lv_at hl 5 rfl) ?_
    refine lv_lload E.1 E.2.1 dX0_noteBounds_73 (lv_at hl 1 rfl) ?_
    refine n_last E hK hP (dW hN rfl) hS 6 5 rfl rfl (by decide) (by omega) dX0_noteBounds_75 (fun H locs hP hS => ?_)
    have hP : va_P D c2 (wX ad ca T n kc ko kv k (fS lo (b * 4 + c) (mn (xb T b c) j)) (fS hi (b * 4 + c) (mx (xb T b c) j)) bw bb pk) H := hP
    exact e_wv E hr hlk hS () trivial (by rw [show j = 15 by omega] at hP; exact hP) dX0_noteBounds_76
  · skip
    refine lv_lload_n E.1 E.2.1 dX0_noteBounds_29 rfl (lv_at hl 2 rfl) ?_
    refine lv_aload_n E.1 E.2.1 dX0_noteBounds_30 rfl (lv_at hl 3 rfl) ?_
    refine n_get E inX hK hP 0 rfl rfl 0 (by decide) flX_9 rfl rfl dX0_noteBounds_31 ?_
    refine lv_iload E.1 E.2.1 dX0_noteBounds_34 (lv_at hl 0 rfl) ?_
    refine n_cald E hK hP 1 0 rfl rfl (16 * b + (j + 1)) c (by omega) (by omega) (by omega) dX0_noteBounds_36 ?_
    refine va_mmin_long E.1 E.2.1 (E.2.2.1.trans hl.1.symm) E.2.2.2.1 (E.2.2.2.2 _ ml_l) (E.2.2.2.2 _ ml_s) (E.2.2.2.2 _ mt_i) (E.2.2.2.2 _ ml_c) (Nat.le_of_ble_eq_true rfl) (Nat.le_of_ble_eq_true rfl) (Nat.zero_le _) (Nat.zero_le _) dX0_noteBounds_37 ?_
    refine lv_lstore_n (lv' := [(3, .long (if T (16 * b + (j + 1)) c < mn (xb T b c) j then T (16 * b + (j + 1)) c else mn (xb T b c) j)), (7, .int (nI (c * 128 + 16 * b + 1 + j))), (5, .long (mx (xb T b c) j)), (0, .ref (ad 0)), (1, .int (nI (c * 128 + 16 * b))), (2, .int (nI (b * 4 + c)))]) E.1 E.2.1 dX0_noteBounds_40 rfl hl (by decide) rfl (fun ls hl => ?_)
    refine lv_lload E.1 E.2.1 dX0_noteBounds_41 (lv_at hl 2 rfl) ?_
    refine lv_aload_n E.1 E.2.1 dX0_noteBounds_43 rfl (lv_at hl 3 rfl) ?_
    refine n_get E inX hK hP 0 rfl rfl 0 (by decide) flX_9 rfl rfl dX0_noteBounds_44 ?_
    refine lv_iload E.1 E.2.1 dX0_noteBounds_47 (lv_at hl 1 rfl) ?_
    refine n_cald E hK hP 1 0 rfl rfl (16 * b + (j + 1)) c (by omega) (by omega) (by omega) dX0_noteBounds_49 ?_
    refine va_mmax_long E.1 E.2.1 (E.2.2.1.trans hl.1.symm) E.2.2.2.1 (E.2.2.2.2 _ mxl_l) (E.2.2.2.2 _ mxl_s) (E.2.2.2.2 _ mt_i) (E.2.2.2.2 _ mxl_c) (Nat.le_of_ble_eq_true rfl) (Nat.le_of_ble_eq_true rfl) (Nat.zero_le _) (Nat.zero_le _) dX0_noteBounds_50 ?_
    refine lv_lstore (lv' := [(5, .long (if T (16 * b + (j + 1)) c < mx (xb T b c) j then mx (xb T b c) j else T (16 * b + (j + 1)) c)), (3, .long (if T (16 * b + (j + 1)) c < mn (xb T b c) j then T (16 * b + (j + 1)) c else mn (xb T b c) j)), (7, .int (nI (c * 128 + 16 * b + 1 + j))), (0, .ref (ad 0)), (1, .int (nI (c * 128 + 16 * b))), (2, .int (nI (b * 4 + c)))]) E.1 E.2.1 dX0_noteBounds_53 hl (by decide) rfl (fun ls hl => ?_)
    refine lv_iinc (k := 2) (v := nI (c * 128 + 16 * b + 1 + j + 1)) (lv' := [(7, .int (nI (c * 128 + 16 * b + 1 + j + 1))), (5, .long (if T (16 * b + (j + 1)) c < mx (xb T b c) j then mx (xb T b c) j else T (16 * b + (j + 1)) c)), (3, .long (if T (16 * b + (j + 1)) c < mn (xb T b c) j then T (16 * b + (j + 1)) c else mn (xb T b c) j)), (0, .ref (ad 0)), (1, .int (nI (c * 128 + 16 * b))), (2, .int (nI (b * 4 + c)))]) E.1 E.2.1 dX0_noteBounds_55 hl rfl (inc1 _) (by decide) rfl (fun ls hl => ?_)
    refine lv_goto (tgt := 20) E.1 E.2.1 dX0_noteBounds_58 rfl ?_
    exact ih20 (j + 1) _ (by omega) (by omega) (lv_sub hl [0, 1, 2, 3, 4, 5] rfl)
set_option maxHeartbeats 4000000 in
set_option maxRecDepth 100000 in
theorem cX_offerWay (l : Launch) (D : va_G) (ad : Nat → Nat) (ca : Nat → ClassId) (T : Nat → Nat → Int64) (n : Nat) (kc ko : Nat → Nat) (kv : Nat → Int64) (k : Nat) (lo hi : Nat → Int64) (bw bb pk : Nat → Nat) (p0 : Nat) (a : Nat × Nat) (w z : Nat) (hN : inj ad 10) (hp0 : p0 < 32) (hz : z < 100000) (ha : a.2 < 100000) : Met l yX0_offerWay (wA yX0_offerWay cX0_offerWay 4 none) (rN 0) (va_Pc [.ref (ad 0), .int (nI p0), .int (nI w), .int (nI z)] (pW D c2 (tX ca) (wX ad ca T n kc ko kv k lo hi (fS bw p0 a.1) (fS bb p0 a.2) pk))) (qV (fun (_ : Unit) => True) D c2 (fun _ => wX ad ca T n kc ko kv k lo hi (fS bw p0 (stp a w z).1) (fS bb p0 (stp a w z).2) pk) (fA ad 10)) 0 0 (fA ad 10) := by
  refine met_of RX0 rfl (by decide) (Nat.le_of_ble_eq_true rfl) (fun p e s m below meth cd ls E hr hlk _ hB hl => ?_)
  obtain ⟨hP, hK⟩ := hB
  have hl : lv_has ls 4 [(0, .ref (ad 0)), (1, .int (nI p0)), (2, .int (nI w)), (3, .int (nI z))] := hl
  have hS : va_S (fA ad 10) s.heap s.heap [] := va_S.rf
  refine lv_iload_n E.1 E.2.1 dX0_offerWay_0 rfl (lv_at hl 3 rfl) ?_
  refine lv_aload_n E.1 E.2.1 dX0_offerWay_1 rfl (lv_at hl 0 rfl) ?_
  refine n_get E inX hK hP 0 rfl rfl 9 (by decide) flX_39 rfl rfl dX0_offerWay_2 ?_
  refine lv_iload_n E.1 E.2.1 dX0_offerWay_5 rfl (lv_at hl 1 rfl) ?_
  have hbb : fS bb p0 a.2 p0 = a.2 := fS_s
  refine n_iald E hK hP 8 7 rfl rfl (by decide) (by omega) dX0_offerWay_6 ?_
  rw [hbb]
  refine n_icmp_ge (tgt := 24) E dX0_offerWay_7 rfl (by omega) (by omega) (fun h7 => ?_) (fun h7 => ?_)
  · skip
    exact e_wv E hr hlk hS () trivial (by rw [stp, if_neg (by omega)]; exact hP) dX0_offerWay_24
  · skip
    refine lv_aload_n E.1 E.2.1 dX0_offerWay_10 rfl (lv_at hl 0 rfl) ?_
    refine n_get E inX hK hP 0 rfl rfl 8 (by decide) flX_36 rfl rfl dX0_offerWay_11 ?_
    refine lv_iload_n E.1 E.2.1 dX0_offerWay_14 rfl (lv_at hl 1 rfl) ?_
    refine lv_iload_n E.1 E.2.1 dX0_offerWay_15 rfl (lv_at hl 2 rfl) ?_
    refine n_iast E hK hP (dW hN rfl) hS 7 6 rfl rfl (by decide) (by omega) dX0_offerWay_16 (fun H locs hP hS => ?_)
    have hP : va_P D c2 (wX ad ca T n kc ko kv k lo hi (fS (fS bw p0 a.1) p0 w) (fS bb p0 a.2) pk) H := hP
    refine lv_aload_n E.1 E.2.1 dX0_offerWay_17 rfl (lv_at hl 0 rfl) ?_
    refine n_get E inX hK hP 0 rfl rfl 9 (by decide) flX_39 rfl rfl dX0_offerWay_18 ?_
    refine lv_iload_n E.1 E.2.1 dX0_offerWay_21 rfl (lv_at hl 1 rfl) ?_
    refine lv_iload_n E.1 E.2.1 dX0_offerWay_22 rfl (lv_at hl 3 rfl) ?_
    refine n_iast E hK hP (dW hN rfl) hS 8 7 rfl rfl (by decide) (by omega) dX0_offerWay_23 (fun H locs hP hS => ?_)
    have hP : va_P D c2 (wX ad ca T n kc ko kv k lo hi (fS (fS bw p0 a.1) p0 w) (fS (fS bb p0 a.2) p0 z) pk) H := hP
    exact e_wv E hr hlk hS () trivial (by rw [stp, if_pos h7]; rw [fS_fS, fS_fS] at hP; exact hP) dX0_offerWay_24
set_option maxHeartbeats 4000000 in
set_option maxRecDepth 100000 in
theorem cX_packColumn (l : Launch) (D : va_G) (ad : Nat → Nat) (ca : Nat → ClassId) (T : Nat → Nat → Int64) (n : Nat) (kc ko : Nat → Nat) (kv : Nat → Int64) (k : Nat) (lo hi : Nat → Int64) (bw bb pk : Nat → Nat) (b c : Nat) (hN : inj ad 10) (hb0 : b < 8) (hc0 : c < 4) : Met l yX0_packColumn (wA yX0_packColumn cX0_packColumn 8 none) (rN 2) (va_Pc [.ref (ad 0), .int (nI b), .int (nI c)] (pW D c2 (tX ca) (wX ad ca T n kc ko kv k lo hi bw bb pk))) (qV (fun (_ : Unit) => True) D c2 (fun _ => wX ad ca T n kc ko kv k (fS lo (b * 4 + c) (mn (xb T b c) 15)) (fS hi (b * 4 + c) (mx (xb T b c) 15)) (fS bw (b * 4 + c) (pck (xb T b c) (cb c)).1) (fS bb (b * 4 + c) (pck (xb T b c) (cb c)).2) pk) (fA ad 10)) 0 0 (fA ad 10) := by
  refine met_of RX0 rfl (by decide) (Nat.le_of_ble_eq_true rfl) (fun p e s m below meth cd ls E hr hlk _ hB hl => ?_)
  obtain ⟨hP, hK⟩ := hB
  have hl : lv_has ls 8 [(0, .ref (ad 0)), (1, .int (nI b)), (2, .int (nI c))] := hl
  have hS : va_S (fA ad 10) s.heap s.heap [] := va_S.rf
  refine lv_iload_n E.1 E.2.1 dX0_packColumn_0 rfl (lv_at hl 1 rfl) ?_
  refine lv_bipush (v := nI 16) E.1 E.2.1 dX0_packColumn_1 rfl ?_
  refine n_imul E dX0_packColumn_3 ?_
  refine lv_iload_n E.1 E.2.1 dX0_packColumn_4 rfl (lv_at hl 2 rfl) ?_
  have e16 : b * 16 = 16 * b := Nat.mul_comm _ _
  rw [e16]
  refine cS_i E (As := [.int (nI (16 * b)), .int (nI c)]) (rest := []) (cX_spot l (16 * b) c) kX_52 rfl rfl ⟨Nat.le_of_ble_eq_true rfl, Nat.le_of_ble_eq_true rfl⟩ rfl hl.1 rfl (Nat.le_of_ble_eq_true rfl) dX0_packColumn_5 ⟨Nat.zero_le _, Nat.zero_le _⟩ ?_
  refine lv_istore_n (lv' := [(3, .int (nI (c * 128 + (16 * b)))), (0, .ref (ad 0)), (1, .int (nI b)), (2, .int (nI c))]) E.1 E.2.1 dX0_packColumn_8 rfl hl (by decide) rfl (fun ls hl => ?_)
  refine lv_iload_n E.1 E.2.1 dX0_packColumn_9 rfl (lv_at hl 2 rfl) ?_
  refine lv_iload_n E.1 E.2.1 dX0_packColumn_10 rfl (lv_at hl 3 rfl) ?_
  refine cS_i E (As := [.int (nI b), .int (nI c)]) (rest := []) (cX_place l b c) kX_123 rfl rfl ⟨Nat.le_of_ble_eq_true rfl, Nat.le_of_ble_eq_true rfl⟩ rfl hl.1 rfl (Nat.le_of_ble_eq_true rfl) dX0_packColumn_11 ⟨Nat.zero_le _, Nat.zero_le _⟩ ?_
  refine lv_istore (lv' := [(4, .int (nI (b * 4 + c))), (3, .int (nI (c * 128 + (16 * b)))), (0, .ref (ad 0)), (1, .int (nI b)), (2, .int (nI c))]) E.1 E.2.1 dX0_packColumn_14 hl (by decide) rfl (fun ls hl => ?_)
  refine lv_iload_n E.1 E.2.1 dX0_packColumn_16 rfl (lv_at hl 4 rfl) ?_
  refine lv_iconst (v := nI 3) E.1 E.2.1 dX0_packColumn_17 rfl ?_
  refine n_icmp_ne (tgt := 26) E dX0_packColumn_18 rfl (by omega) (by omega) (fun h18 => ?_) (fun h18 => ?_)
  · skip
    refine lv_bipush (v := nI 32) E.1 E.2.1 dX0_packColumn_26 rfl ?_
    refine tpi (y := nI (cb c)) (by rw [cb, if_neg h18]) ?_
    refine lv_istore (lv' := [(5, .int (nI (cb c))), (4, .int (nI (b * 4 + c))), (3, .int (nI (c * 128 + (16 * b)))), (0, .ref (ad 0)), (1, .int (nI b)), (2, .int (nI c))]) E.1 E.2.1 dX0_packColumn_28 hl (by decide) rfl (fun ls hl => ?_)
    have hcb := cb_le c
    refine lv_aload_n E.1 E.2.1 dX0_packColumn_30 rfl (lv_at hl 3 rfl) ?_
    refine lv_iload_n E.1 E.2.1 dX0_packColumn_31 rfl (lv_at hl 2 rfl) ?_
    refine lv_iload E.1 E.2.1 dX0_packColumn_32 (lv_at hl 1 rfl) ?_
    refine cV_wv E (As := [.int (nI (c * 128 + (16 * b))), .int (nI (b * 4 + c))]) (rest := []) (cX_noteBounds l D ad ca T n kc ko kv k lo hi bw bb pk b c hN (by omega) (by omega)) kX_162 hK hP hS (fun _ h => h) 0 rfl rfl rfl rfl ⟨Nat.le_of_ble_eq_true rfl, Nat.le_of_ble_eq_true rfl⟩ rfl hl.1 rfl (Nat.le_of_ble_eq_true rfl) dX0_packColumn_34 ⟨Nat.zero_le _, Nat.zero_le _⟩ (fun u34 H locs hp34 hP _ _ hS => ?_)
    have hP : va_P D c2 (wX ad ca T n kc ko kv k (fS lo (b * 4 + c) (mn (xb T b c) 15)) (fS hi (b * 4 + c) (mx (xb T b c) 15)) bw bb pk) H := hP
    refine lv_aload_n E.1 E.2.1 dX0_packColumn_37 rfl (lv_at hl 3 rfl) ?_
    refine lv_iload_n E.1 E.2.1 dX0_packColumn_38 rfl (lv_at hl 2 rfl) ?_
    refine cV_i E (As := [.int (nI (c * 128 + (16 * b)))]) (rest := []) (cX_differentCells l D ad ca T n kc ko kv k (fS lo (b * 4 + c) (mn (xb T b c) 15)) (fS hi (b * 4 + c) (mx (xb T b c) 15)) bw bb pk b c (by omega) (by omega)) kX_165 hK hP 0 rfl rfl rfl rfl ⟨Nat.le_of_ble_eq_true rfl, Nat.le_of_ble_eq_true rfl⟩ rfl hl.1 rfl (Nat.le_of_ble_eq_true rfl) dX0_packColumn_39 ⟨Nat.zero_le _, Nat.zero_le _⟩ ?_
    refine lv_istore (lv' := [(6, .int (nI (wds (xb T b c)))), (5, .int (nI (cb c))), (4, .int (nI (b * 4 + c))), (3, .int (nI (c * 128 + (16 * b)))), (0, .ref (ad 0)), (1, .int (nI b)), (2, .int (nI c))]) E.1 E.2.1 dX0_packColumn_42 hl (by decide) rfl (fun ls hl => ?_)
    refine lv_aload_n E.1 E.2.1 dX0_packColumn_44 rfl (lv_at hl 4 rfl) ?_
    refine n_get E inX hK hP 0 rfl rfl 7 (by decide) flX_33 rfl rfl dX0_packColumn_45 ?_
    refine lv_iload E.1 E.2.1 dX0_packColumn_48 (lv_at hl 2 rfl) ?_
    refine n_lald E hK hP 6 5 rfl rfl (by decide) (by omega) dX0_packColumn_50 ?_
    refine lv_aload_n E.1 E.2.1 dX0_packColumn_51 rfl (lv_at hl 4 rfl) ?_
    refine n_get E inX hK hP 0 rfl rfl 6 (by decide) flX_30 rfl rfl dX0_packColumn_52 ?_
    refine lv_iload E.1 E.2.1 dX0_packColumn_55 (lv_at hl 2 rfl) ?_
    refine n_lald E hK hP 5 4 rfl rfl (by decide) (by omega) dX0_packColumn_57 ?_
    refine lv_lsub E.1 E.2.1 dX0_packColumn_58 ?_
    refine tpl (y := mx (xb T b c) 15 - mn (xb T b c) 15) (by rw [fS_s, fS_s]) ?_
    refine cS_i E (As := [.long (mx (xb T b c) 15 - mn (xb T b c) 15)]) (rest := []) (cX_widthOf l (mx (xb T b c) 15 - mn (xb T b c) 15)) kX_169 rfl rfl ⟨Nat.le_of_ble_eq_true rfl, Nat.le_of_ble_eq_true rfl⟩ rfl hl.1 rfl (Nat.le_of_ble_eq_true rfl) dX0_packColumn_59 ⟨Nat.zero_le _, Nat.zero_le _⟩ ?_
    refine lv_istore (lv' := [(7, .int (nI (wd (mx (xb T b c) 15 - mn (xb T b c) 15)))), (6, .int (nI (wds (xb T b c)))), (5, .int (nI (cb c))), (4, .int (nI (b * 4 + c))), (3, .int (nI (c * 128 + (16 * b)))), (0, .ref (ad 0)), (1, .int (nI b)), (2, .int (nI c))]) E.1 E.2.1 dX0_packColumn_62 hl (by decide) rfl (fun ls hl => ?_)
    refine lv_aload_n E.1 E.2.1 dX0_packColumn_64 rfl (lv_at hl 5 rfl) ?_
    refine n_get E inX hK hP 0 rfl rfl 8 (by decide) flX_36 rfl rfl dX0_packColumn_65 ?_
    refine lv_iload E.1 E.2.1 dX0_packColumn_68 (lv_at hl 3 rfl) ?_
    refine lv_iconst (v := nI 0) E.1 E.2.1 dX0_packColumn_70 rfl ?_
    refine n_iast E hK hP (dW hN rfl) hS 7 6 rfl rfl (by decide) (by omega) dX0_packColumn_71 (fun H locs hP hS => ?_)
    have hP : va_P D c2 (wX ad ca T n kc ko kv k (fS lo (b * 4 + c) (mn (xb T b c) 15)) (fS hi (b * 4 + c) (mx (xb T b c) 15)) (fS bw (b * 4 + c) 0) bb pk) H := hP
    refine lv_aload_n E.1 E.2.1 dX0_packColumn_72 rfl (lv_at hl 5 rfl) ?_
    refine n_get E inX hK hP 0 rfl rfl 9 (by decide) flX_39 rfl rfl dX0_packColumn_73 ?_
    refine lv_iload E.1 E.2.1 dX0_packColumn_76 (lv_at hl 3 rfl) ?_
    refine lv_bipush (v := nI 16) E.1 E.2.1 dX0_packColumn_78 rfl ?_
    refine lv_iload E.1 E.2.1 dX0_packColumn_80 (lv_at hl 2 rfl) ?_
    refine n_imul E dX0_packColumn_82 ?_
    refine n_iast E hK hP (dW hN rfl) hS 8 7 rfl rfl (by decide) (by omega) dX0_packColumn_83 (fun H locs hP hS => ?_)
    have hP : va_P D c2 (wX ad ca T n kc ko kv k (fS lo (b * 4 + c) (mn (xb T b c) 15)) (fS hi (b * 4 + c) (mx (xb T b c) 15)) (fS bw (b * 4 + c) 0) (fS bb (b * 4 + c) (16 * (cb c))) pk) H := hP
    refine lv_aload_n E.1 E.2.1 dX0_packColumn_84 rfl (lv_at hl 5 rfl) ?_
    refine lv_iload E.1 E.2.1 dX0_packColumn_85 (lv_at hl 3 rfl) ?_
    refine lv_iconst (v := nI 1) E.1 E.2.1 dX0_packColumn_87 rfl ?_
    refine lv_aload_n E.1 E.2.1 dX0_packColumn_88 rfl (lv_at hl 5 rfl) ?_
    refine lv_iload_n E.1 E.2.1 dX0_packColumn_89 rfl (lv_at hl 4 rfl) ?_
    refine cV_i E (As := [.int (nI (c * 128 + (16 * b)))]) (rest := [.int (nI 1), .int (nI (b * 4 + c)), .ref (ad 0)]) (cX_runsOfCells l D ad ca T n kc ko kv k (fS lo (b * 4 + c) (mn (xb T b c) 15)) (fS hi (b * 4 + c) (mx (xb T b c) 15)) (fS bw (b * 4 + c) 0) (fS bb (b * 4 + c) (16 * (cb c))) pk b c (by omega) (by omega)) kX_173 hK hP 0 rfl rfl rfl rfl ⟨Nat.le_of_ble_eq_true rfl, Nat.le_of_ble_eq_true rfl⟩ rfl hl.1 rfl (Nat.le_of_ble_eq_true rfl) dX0_packColumn_90 ⟨Nat.zero_le _, Nat.zero_le _⟩ ?_
    refine lv_iload E.1 E.2.1 dX0_packColumn_93 (lv_at hl 2 rfl) ?_
    refine lv_iconst (v := nI 5) E.1 E.2.1 dX0_packColumn_95 rfl ?_
    refine n_iadd E dX0_packColumn_96 ?_
    refine n_imul E dX0_packColumn_97 ?_
    refine tpi (y := nI (zR (xb T b c) (cb c))) rfl ?_
    have hzR := zR_le (xb T b c) c
    have hzW := zW_le (xb T b c) c
    have hzO := zO_le (xb T b c) c
    have hx1 : ((0, 16 * cb c)).2 ≤ 16 * 64 := by show 16 * cb c ≤ _; omega
    have hx2 := stp_le (w := 1) (z := zR (xb T b c) (cb c)) hx1
    have hx3 := stp_le (w := 2) (z := zW (xb T b c) (cb c)) hx2
    refine cV_wv E (As := [.int (nI (b * 4 + c)), .int (nI 1), .int (nI (zR (xb T b c) (cb c)))]) (rest := []) (cX_offerWay l D ad ca T n kc ko kv k (fS lo (b * 4 + c) (mn (xb T b c) 15)) (fS hi (b * 4 + c) (mx (xb T b c) 15)) bw bb pk (b * 4 + c) (0, 16 * cb c) 1 (zR (xb T b c) (cb c)) hN (by omega) (by omega) (by omega)) kX_176 hK hP hS (fun _ h => h) 0 rfl rfl rfl rfl ⟨Nat.le_of_ble_eq_true rfl, Nat.le_of_ble_eq_true rfl⟩ rfl hl.1 rfl (Nat.le_of_ble_eq_true rfl) dX0_packColumn_98 ⟨Nat.zero_le _, Nat.zero_le _⟩ (fun u98 H locs hp98 hP _ _ hS => ?_)
    have hP : va_P D c2 (wX ad ca T n kc ko kv k (fS lo (b * 4 + c) (mn (xb T b c) 15)) (fS hi (b * 4 + c) (mx (xb T b c) 15)) (fS bw (b * 4 + c) (stp (0, 16 * cb c) 1 (zR (xb T b c) (cb c))).1) (fS bb (b * 4 + c) (stp (0, 16 * cb c) 1 (zR (xb T b c) (cb c))).2) pk) H := hP
    refine lv_aload_n E.1 E.2.1 dX0_packColumn_101 rfl (lv_at hl 5 rfl) ?_
    refine lv_iload E.1 E.2.1 dX0_packColumn_102 (lv_at hl 3 rfl) ?_
    refine lv_iconst (v := nI 2) E.1 E.2.1 dX0_packColumn_104 rfl ?_
    refine lv_iload E.1 E.2.1 dX0_packColumn_105 (lv_at hl 1 rfl) ?_
    refine lv_iload E.1 E.2.1 dX0_packColumn_107 (lv_at hl 2 rfl) ?_
    refine n_imul E dX0_packColumn_109 ?_
    refine lv_bipush (v := nI 16) E.1 E.2.1 dX0_packColumn_110 rfl ?_
    refine lv_iload E.1 E.2.1 dX0_packColumn_112 (lv_at hl 1 rfl) ?_
    refine lv_iconst (v := nI 1) E.1 E.2.1 dX0_packColumn_114 rfl ?_
    have hwp := wds_pos (xb T b c)
    have hwl := wds_le (xb T b c)
    refine n_isub E (by omega) dX0_packColumn_115 ?_
    refine n_i2l E (by omega) dX0_packColumn_116 ?_
    refine cS_i E (As := [.long (lN (wds (xb T b c) - 1))]) (rest := [.int (nI 16), .int (nI ((wds (xb T b c)) * (cb c))), .int (nI 2), .int (nI (b * 4 + c)), .ref (ad 0)]) (cX_widthOf l (lN (wds (xb T b c) - 1))) kX_169 rfl rfl ⟨Nat.le_of_ble_eq_true rfl, Nat.le_of_ble_eq_true rfl⟩ rfl hl.1 rfl (Nat.le_of_ble_eq_true rfl) dX0_packColumn_117 ⟨Nat.zero_le _, Nat.zero_le _⟩ ?_
    refine n_imul E dX0_packColumn_120 ?_
    refine n_iadd E dX0_packColumn_121 ?_
    refine tpi (y := nI (zW (xb T b c) (cb c))) rfl ?_
    refine cV_wv E (As := [.int (nI (b * 4 + c)), .int (nI 2), .int (nI (zW (xb T b c) (cb c)))]) (rest := []) (cX_offerWay l D ad ca T n kc ko kv k (fS lo (b * 4 + c) (mn (xb T b c) 15)) (fS hi (b * 4 + c) (mx (xb T b c) 15)) bw bb pk (b * 4 + c) (stp (0, 16 * cb c) 1 (zR (xb T b c) (cb c))) 2 (zW (xb T b c) (cb c)) hN (by omega) (by omega) (by omega)) kX_176 hK hP hS (fun _ h => h) 0 rfl rfl rfl rfl ⟨Nat.le_of_ble_eq_true rfl, Nat.le_of_ble_eq_true rfl⟩ rfl hl.1 rfl (Nat.le_of_ble_eq_true rfl) dX0_packColumn_122 ⟨Nat.zero_le _, Nat.zero_le _⟩ (fun u122 H locs hp122 hP _ _ hS => ?_)
    have hP : va_P D c2 (wX ad ca T n kc ko kv k (fS lo (b * 4 + c) (mn (xb T b c) 15)) (fS hi (b * 4 + c) (mx (xb T b c) 15)) (fS bw (b * 4 + c) (stp (stp (0, 16 * cb c) 1 (zR (xb T b c) (cb c))) 2 (zW (xb T b c) (cb c))).1) (fS bb (b * 4 + c) (stp (stp (0, 16 * cb c) 1 (zR (xb T b c) (cb c))) 2 (zW (xb T b c) (cb c))).2) pk) H := hP
    refine lv_aload_n E.1 E.2.1 dX0_packColumn_125 rfl (lv_at hl 5 rfl) ?_
    refine lv_iload E.1 E.2.1 dX0_packColumn_126 (lv_at hl 3 rfl) ?_
    refine lv_iconst (v := nI 3) E.1 E.2.1 dX0_packColumn_128 rfl ?_
    refine lv_iload E.1 E.2.1 dX0_packColumn_129 (lv_at hl 2 rfl) ?_
    refine lv_bipush (v := nI 7) E.1 E.2.1 dX0_packColumn_131 rfl ?_
    refine n_iadd E dX0_packColumn_133 ?_
    refine lv_bipush (v := nI 16) E.1 E.2.1 dX0_packColumn_134 rfl ?_
    refine lv_iload E.1 E.2.1 dX0_packColumn_136 (lv_at hl 0 rfl) ?_
    refine n_imul E dX0_packColumn_138 ?_
    refine n_iadd E dX0_packColumn_139 ?_
    refine tpi (y := nI (zO (xb T b c) (cb c))) rfl ?_
    refine cV_wv E (As := [.int (nI (b * 4 + c)), .int (nI 3), .int (nI (zO (xb T b c) (cb c)))]) (rest := []) (cX_offerWay l D ad ca T n kc ko kv k (fS lo (b * 4 + c) (mn (xb T b c) 15)) (fS hi (b * 4 + c) (mx (xb T b c) 15)) bw bb pk (b * 4 + c) (stp (stp (0, 16 * cb c) 1 (zR (xb T b c) (cb c))) 2 (zW (xb T b c) (cb c))) 3 (zO (xb T b c) (cb c)) hN (by omega) (by omega) (by omega)) kX_176 hK hP hS (fun _ h => h) 0 rfl rfl rfl rfl ⟨Nat.le_of_ble_eq_true rfl, Nat.le_of_ble_eq_true rfl⟩ rfl hl.1 rfl (Nat.le_of_ble_eq_true rfl) dX0_packColumn_140 ⟨Nat.zero_le _, Nat.zero_le _⟩ (fun u140 H locs hp140 hP _ _ hS => ?_)
    have hP : va_P D c2 (wX ad ca T n kc ko kv k (fS lo (b * 4 + c) (mn (xb T b c) 15)) (fS hi (b * 4 + c) (mx (xb T b c) 15)) (fS bw (b * 4 + c) (stp (stp (stp (0, 16 * cb c) 1 (zR (xb T b c) (cb c))) 2 (zW (xb T b c) (cb c))) 3 (zO (xb T b c) (cb c))).1) (fS bb (b * 4 + c) (stp (stp (stp (0, 16 * cb c) 1 (zR (xb T b c) (cb c))) 2 (zW (xb T b c) (cb c))) 3 (zO (xb T b c) (cb c))).2) pk) H := hP
    exact e_wv E hr hlk hS () trivial hP dX0_packColumn_143
  · skip
    refine lv_bipush (v := nI 64) E.1 E.2.1 dX0_packColumn_21 rfl ?_
    refine lv_goto (tgt := 28) E.1 E.2.1 dX0_packColumn_23 rfl ?_
    refine tpi (y := nI (cb c)) (by rw [cb, if_pos h18]) ?_
    refine lv_istore (lv' := [(5, .int (nI (cb c))), (4, .int (nI (b * 4 + c))), (3, .int (nI (c * 128 + (16 * b)))), (0, .ref (ad 0)), (1, .int (nI b)), (2, .int (nI c))]) E.1 E.2.1 dX0_packColumn_28 hl (by decide) rfl (fun ls hl => ?_)
    have hcb := cb_le c
    refine lv_aload_n E.1 E.2.1 dX0_packColumn_30 rfl (lv_at hl 3 rfl) ?_
    refine lv_iload_n E.1 E.2.1 dX0_packColumn_31 rfl (lv_at hl 2 rfl) ?_
    refine lv_iload E.1 E.2.1 dX0_packColumn_32 (lv_at hl 1 rfl) ?_
    refine cV_wv E (As := [.int (nI (c * 128 + (16 * b))), .int (nI (b * 4 + c))]) (rest := []) (cX_noteBounds l D ad ca T n kc ko kv k lo hi bw bb pk b c hN (by omega) (by omega)) kX_162 hK hP hS (fun _ h => h) 0 rfl rfl rfl rfl ⟨Nat.le_of_ble_eq_true rfl, Nat.le_of_ble_eq_true rfl⟩ rfl hl.1 rfl (Nat.le_of_ble_eq_true rfl) dX0_packColumn_34 ⟨Nat.zero_le _, Nat.zero_le _⟩ (fun u34 H locs hp34 hP _ _ hS => ?_)
    have hP : va_P D c2 (wX ad ca T n kc ko kv k (fS lo (b * 4 + c) (mn (xb T b c) 15)) (fS hi (b * 4 + c) (mx (xb T b c) 15)) bw bb pk) H := hP
    refine lv_aload_n E.1 E.2.1 dX0_packColumn_37 rfl (lv_at hl 3 rfl) ?_
    refine lv_iload_n E.1 E.2.1 dX0_packColumn_38 rfl (lv_at hl 2 rfl) ?_
    refine cV_i E (As := [.int (nI (c * 128 + (16 * b)))]) (rest := []) (cX_differentCells l D ad ca T n kc ko kv k (fS lo (b * 4 + c) (mn (xb T b c) 15)) (fS hi (b * 4 + c) (mx (xb T b c) 15)) bw bb pk b c (by omega) (by omega)) kX_165 hK hP 0 rfl rfl rfl rfl ⟨Nat.le_of_ble_eq_true rfl, Nat.le_of_ble_eq_true rfl⟩ rfl hl.1 rfl (Nat.le_of_ble_eq_true rfl) dX0_packColumn_39 ⟨Nat.zero_le _, Nat.zero_le _⟩ ?_
    refine lv_istore (lv' := [(6, .int (nI (wds (xb T b c)))), (5, .int (nI (cb c))), (4, .int (nI (b * 4 + c))), (3, .int (nI (c * 128 + (16 * b)))), (0, .ref (ad 0)), (1, .int (nI b)), (2, .int (nI c))]) E.1 E.2.1 dX0_packColumn_42 hl (by decide) rfl (fun ls hl => ?_)
    refine lv_aload_n E.1 E.2.1 dX0_packColumn_44 rfl (lv_at hl 4 rfl) ?_
    refine n_get E inX hK hP 0 rfl rfl 7 (by decide) flX_33 rfl rfl dX0_packColumn_45 ?_
    refine lv_iload E.1 E.2.1 dX0_packColumn_48 (lv_at hl 2 rfl) ?_
    refine n_lald E hK hP 6 5 rfl rfl (by decide) (by omega) dX0_packColumn_50 ?_
    refine lv_aload_n E.1 E.2.1 dX0_packColumn_51 rfl (lv_at hl 4 rfl) ?_
    refine n_get E inX hK hP 0 rfl rfl 6 (by decide) flX_30 rfl rfl dX0_packColumn_52 ?_
    refine lv_iload E.1 E.2.1 dX0_packColumn_55 (lv_at hl 2 rfl) ?_
    refine n_lald E hK hP 5 4 rfl rfl (by decide) (by omega) dX0_packColumn_57 ?_
    refine lv_lsub E.1 E.2.1 dX0_packColumn_58 ?_
    refine tpl (y := mx (xb T b c) 15 - mn (xb T b c) 15) (by rw [fS_s, fS_s]) ?_
    refine cS_i E (As := [.long (mx (xb T b c) 15 - mn (xb T b c) 15)]) (rest := []) (cX_widthOf l (mx (xb T b c) 15 - mn (xb T b c) 15)) kX_169 rfl rfl ⟨Nat.le_of_ble_eq_true rfl, Nat.le_of_ble_eq_true rfl⟩ rfl hl.1 rfl (Nat.le_of_ble_eq_true rfl) dX0_packColumn_59 ⟨Nat.zero_le _, Nat.zero_le _⟩ ?_
    refine lv_istore (lv' := [(7, .int (nI (wd (mx (xb T b c) 15 - mn (xb T b c) 15)))), (6, .int (nI (wds (xb T b c)))), (5, .int (nI (cb c))), (4, .int (nI (b * 4 + c))), (3, .int (nI (c * 128 + (16 * b)))), (0, .ref (ad 0)), (1, .int (nI b)), (2, .int (nI c))]) E.1 E.2.1 dX0_packColumn_62 hl (by decide) rfl (fun ls hl => ?_)
    refine lv_aload_n E.1 E.2.1 dX0_packColumn_64 rfl (lv_at hl 5 rfl) ?_
    refine n_get E inX hK hP 0 rfl rfl 8 (by decide) flX_36 rfl rfl dX0_packColumn_65 ?_
    refine lv_iload E.1 E.2.1 dX0_packColumn_68 (lv_at hl 3 rfl) ?_
    refine lv_iconst (v := nI 0) E.1 E.2.1 dX0_packColumn_70 rfl ?_
    refine n_iast E hK hP (dW hN rfl) hS 7 6 rfl rfl (by decide) (by omega) dX0_packColumn_71 (fun H locs hP hS => ?_)
    have hP : va_P D c2 (wX ad ca T n kc ko kv k (fS lo (b * 4 + c) (mn (xb T b c) 15)) (fS hi (b * 4 + c) (mx (xb T b c) 15)) (fS bw (b * 4 + c) 0) bb pk) H := hP
    refine lv_aload_n E.1 E.2.1 dX0_packColumn_72 rfl (lv_at hl 5 rfl) ?_
    refine n_get E inX hK hP 0 rfl rfl 9 (by decide) flX_39 rfl rfl dX0_packColumn_73 ?_
    refine lv_iload E.1 E.2.1 dX0_packColumn_76 (lv_at hl 3 rfl) ?_
    refine lv_bipush (v := nI 16) E.1 E.2.1 dX0_packColumn_78 rfl ?_
    refine lv_iload E.1 E.2.1 dX0_packColumn_80 (lv_at hl 2 rfl) ?_
    refine n_imul E dX0_packColumn_82 ?_
    refine n_iast E hK hP (dW hN rfl) hS 8 7 rfl rfl (by decide) (by omega) dX0_packColumn_83 (fun H locs hP hS => ?_)
    have hP : va_P D c2 (wX ad ca T n kc ko kv k (fS lo (b * 4 + c) (mn (xb T b c) 15)) (fS hi (b * 4 + c) (mx (xb T b c) 15)) (fS bw (b * 4 + c) 0) (fS bb (b * 4 + c) (16 * (cb c))) pk) H := hP
    refine lv_aload_n E.1 E.2.1 dX0_packColumn_84 rfl (lv_at hl 5 rfl) ?_
    refine lv_iload E.1 E.2.1 dX0_packColumn_85 (lv_at hl 3 rfl) ?_
    refine lv_iconst (v := nI 1) E.1 E.2.1 dX0_packColumn_87 rfl ?_
    refine lv_aload_n E.1 E.2.1 dX0_packColumn_88 rfl (lv_at hl 5 rfl) ?_
    refine lv_iload_n E.1 E.2.1 dX0_packColumn_89 rfl (lv_at hl 4 rfl) ?_
    refine cV_i E (As := [.int (nI (c * 128 + (16 * b)))]) (rest := [.int (nI 1), .int (nI (b * 4 + c)), .ref (ad 0)]) (cX_runsOfCells l D ad ca T n kc ko kv k (fS lo (b * 4 + c) (mn (xb T b c) 15)) (fS hi (b * 4 + c) (mx (xb T b c) 15)) (fS bw (b * 4 + c) 0) (fS bb (b * 4 + c) (16 * (cb c))) pk b c (by omega) (by omega)) kX_173 hK hP 0 rfl rfl rfl rfl ⟨Nat.le_of_ble_eq_true rfl, Nat.le_of_ble_eq_true rfl⟩ rfl hl.1 rfl (Nat.le_of_ble_eq_true rfl) dX0_packColumn_90 ⟨Nat.zero_le _, Nat.zero_le _⟩ ?_
    refine lv_iload E.1 E.2.1 dX0_packColumn_93 (lv_at hl 2 rfl) ?_
    refine lv_iconst (v := nI 5) E.1 E.2.1 dX0_packColumn_95 rfl ?_
    refine n_iadd E dX0_packColumn_96 ?_
    refine n_imul E dX0_packColumn_97 ?_
    refine tpi (y := nI (zR (xb T b c) (cb c))) rfl ?_
    have hzR := zR_le (xb T b c) c
    have hzW := zW_le (xb T b c) c
    have hzO := zO_le (xb T b c) c
    have hx1 : ((0, 16 * cb c)).2 ≤ 16 * 64 := by show 16 * cb c ≤ _; omega
    have hx2 := stp_le (w := 1) (z := zR (xb T b c) (cb c)) hx1
    have hx3 := stp_le (w := 2) (z := zW (xb T b c) (cb c)) hx2
    refine cV_wv E (As := [.int (nI (b * 4 + c)), .int (nI 1), .int (nI (zR (xb T b c) (cb c)))]) (rest := []) (cX_offerWay l D ad ca T n kc ko kv k (fS lo (b * 4 + c) (mn (xb T b c) 15)) (fS hi (b * 4 + c) (mx (xb T b c) 15)) bw bb pk (b * 4 + c) (0, 16 * cb c) 1 (zR (xb T b c) (cb c)) hN (by omega) (by omega) (by omega)) kX_176 hK hP hS (fun _ h => h) 0 rfl rfl rfl rfl ⟨Nat.le_of_ble_eq_true rfl, Nat.le_of_ble_eq_true rfl⟩ rfl hl.1 rfl (Nat.le_of_ble_eq_true rfl) dX0_packColumn_98 ⟨Nat.zero_le _, Nat.zero_le _⟩ (fun u98 H locs hp98 hP _ _ hS => ?_)
    have hP : va_P D c2 (wX ad ca T n kc ko kv k (fS lo (b * 4 + c) (mn (xb T b c) 15)) (fS hi (b * 4 + c) (mx (xb T b c) 15)) (fS bw (b * 4 + c) (stp (0, 16 * cb c) 1 (zR (xb T b c) (cb c))).1) (fS bb (b * 4 + c) (stp (0, 16 * cb c) 1 (zR (xb T b c) (cb c))).2) pk) H := hP
    refine lv_aload_n E.1 E.2.1 dX0_packColumn_101 rfl (lv_at hl 5 rfl) ?_
    refine lv_iload E.1 E.2.1 dX0_packColumn_102 (lv_at hl 3 rfl) ?_
    refine lv_iconst (v := nI 2) E.1 E.2.1 dX0_packColumn_104 rfl ?_
    refine lv_iload E.1 E.2.1 dX0_packColumn_105 (lv_at hl 1 rfl) ?_
    refine lv_iload E.1 E.2.1 dX0_packColumn_107 (lv_at hl 2 rfl) ?_
    refine n_imul E dX0_packColumn_109 ?_
    refine lv_bipush (v := nI 16) E.1 E.2.1 dX0_packColumn_110 rfl ?_
    refine lv_iload E.1 E.2.1 dX0_packColumn_112 (lv_at hl 1 rfl) ?_
    refine lv_iconst (v := nI 1) E.1 E.2.1 dX0_packColumn_114 rfl ?_
    have hwp := wds_pos (xb T b c)
    have hwl := wds_le (xb T b c)
    refine n_isub E (by omega) dX0_packColumn_115 ?_
    refine n_i2l E (by omega) dX0_packColumn_116 ?_
    refine cS_i E (As := [.long (lN (wds (xb T b c) - 1))]) (rest := [.int (nI 16), .int (nI ((wds (xb T b c)) * (cb c))), .int (nI 2), .int (nI (b * 4 + c)), .ref (ad 0)]) (cX_widthOf l (lN (wds (xb T b c) - 1))) kX_169 rfl rfl ⟨Nat.le_of_ble_eq_true rfl, Nat.le_of_ble_eq_true rfl⟩ rfl hl.1 rfl (Nat.le_of_ble_eq_true rfl) dX0_packColumn_117 ⟨Nat.zero_le _, Nat.zero_le _⟩ ?_
    refine n_imul E dX0_packColumn_120 ?_
    refine n_iadd E dX0_packColumn_121 ?_
    refine tpi (y := nI (zW (xb T b c) (cb c))) rfl ?_
    refine cV_wv E (As := [.int (nI (b * 4 + c)), .int (nI 2), .int (nI (zW (xb T b c) (cb c)))]) (rest := []) (cX_offerWay l D ad ca T n kc ko kv k (fS lo (b * 4 + c) (mn (xb T b c) 15)) (fS hi (b * 4 + c) (mx (xb T b c) 15)) bw bb pk (b * 4 + c) (stp (0, 16 * cb c) 1 (zR (xb T b c) (cb c))) 2 (zW (xb T b c) (cb c)) hN (by omega) (by omega) (by omega)) kX_176 hK hP hS (fun _ h => h) 0 rfl rfl rfl rfl ⟨Nat.le_of_ble_eq_true rfl, Nat.le_of_ble_eq_true rfl⟩ rfl hl.1 rfl (Nat.le_of_ble_eq_true rfl) dX0_packColumn_122 ⟨Nat.zero_le _, Nat.zero_le _⟩ (fun u122 H locs hp122 hP _ _ hS => ?_)
    have hP : va_P D c2 (wX ad ca T n kc ko kv k (fS lo (b * 4 + c) (mn (xb T b c) 15)) (fS hi (b * 4 + c) (mx (xb T b c) 15)) (fS bw (b * 4 + c) (stp (stp (0, 16 * cb c) 1 (zR (xb T b c) (cb c))) 2 (zW (xb T b c) (cb c))).1) (fS bb (b * 4 + c) (stp (stp (0, 16 * cb c) 1 (zR (xb T b c) (cb c))) 2 (zW (xb T b c) (cb c))).2) pk) H := hP
    refine lv_aload_n E.1 E.2.1 dX0_packColumn_125 rfl (lv_at hl 5 rfl) ?_
    refine lv_iload E.1 E.2.1 dX0_packColumn_126 (lv_at hl 3 rfl) ?_
    refine lv_iconst (v := nI 3) E.1 E.2.1 dX0_packColumn_128 rfl ?_
    refine lv_iload E.1 E.2.1 dX0_packColumn_129 (lv_at hl 2 rfl) ?_
    refine lv_bipush (v := nI 7) E.1 E.2.1 dX0_packColumn_131 rfl ?_
    refine n_iadd E dX0_packColumn_133 ?_
    refine lv_bipush (v := nI 16) E.1 E.2.1 dX0_packColumn_134 rfl ?_
    refine lv_iload E.1 E.2.1 dX0_packColumn_136 (lv_at hl 0 rfl) ?_
    refine n_imul E dX0_packColumn_138 ?_
    refine n_iadd E dX0_packColumn_139 ?_
    refine tpi (y := nI (zO (xb T b c) (cb c))) rfl ?_
    refine cV_wv E (As := [.int (nI (b * 4 + c)), .int (nI 3), .int (nI (zO (xb T b c) (cb c)))]) (rest := []) (cX_offerWay l D ad ca T n kc ko kv k (fS lo (b * 4 + c) (mn (xb T b c) 15)) (fS hi (b * 4 + c) (mx (xb T b c) 15)) bw bb pk (b * 4 + c) (stp (stp (0, 16 * cb c) 1 (zR (xb T b c) (cb c))) 2 (zW (xb T b c) (cb c))) 3 (zO (xb T b c) (cb c)) hN (by omega) (by omega) (by omega)) kX_176 hK hP hS (fun _ h => h) 0 rfl rfl rfl rfl ⟨Nat.le_of_ble_eq_true rfl, Nat.le_of_ble_eq_true rfl⟩ rfl hl.1 rfl (Nat.le_of_ble_eq_true rfl) dX0_packColumn_140 ⟨Nat.zero_le _, Nat.zero_le _⟩ (fun u140 H locs hp140 hP _ _ hS => ?_)
    have hP : va_P D c2 (wX ad ca T n kc ko kv k (fS lo (b * 4 + c) (mn (xb T b c) 15)) (fS hi (b * 4 + c) (mx (xb T b c) 15)) (fS bw (b * 4 + c) (stp (stp (stp (0, 16 * cb c) 1 (zR (xb T b c) (cb c))) 2 (zW (xb T b c) (cb c))) 3 (zO (xb T b c) (cb c))).1) (fS bb (b * 4 + c) (stp (stp (stp (0, 16 * cb c) 1 (zR (xb T b c) (cb c))) 2 (zW (xb T b c) (cb c))) 3 (zO (xb T b c) (cb c))).2) pk) H := hP
    exact e_wv E hr hlk hS () trivial hP dX0_packColumn_143
set_option maxHeartbeats 4000000 in
set_option maxRecDepth 100000 in
theorem cX_packBlock (l : Launch) (D : va_G) (ad : Nat → Nat) (ca : Nat → ClassId) (T : Nat → Nat → Int64) (n : Nat) (kc ko : Nat → Nat) (kv : Nat → Int64) (k : Nat) (lo hi : Nat → Int64) (bw bb pk : Nat → Nat) (b : Nat) (hN : inj ad 10) (hb0 : b < 8) : Met l yX0_packBlock (wA yX0_packBlock cX0_packBlock 3 none) (rN 3) (va_Pc [.ref (ad 0), .int (nI b)] (pW D c2 (tX ca) (wX ad ca T n kc ko kv k lo hi bw bb pk))) (qV (fun (u : (Nat → Int64) × (Nat → Int64) × (Nat → Nat) × (Nat → Nat)) => (∀ c, c < 4 → Pk T b c u.1 u.2.1 u.2.2.1 u.2.2.2) ∧ ∀ i, (i < b * 4 ∨ b * 4 + 4 ≤ i) → u.1 i = lo i ∧ u.2.1 i = hi i ∧ u.2.2.1 i = bw i ∧ u.2.2.2 i = bb i) D c2 (fun u => wX ad ca T n kc ko kv k u.1 u.2.1 u.2.2.1 u.2.2.2 pk) (fA ad 10)) 0 0 (fA ad 10) := by
  refine met_of RX0 rfl (by decide) (Nat.le_of_ble_eq_true rfl) (fun p e s m below meth cd ls E hr hlk _ hB hl => ?_)
  obtain ⟨hP, hK⟩ := hB
  have hl : lv_has ls 3 [(0, .ref (ad 0)), (1, .int (nI b))] := hl
  have hS : va_S (fA ad 10) s.heap s.heap [] := va_S.rf
  refine lv_iconst (v := nI 0) E.1 E.2.1 dX0_packBlock_0 rfl ?_
  refine lv_istore_n (lv' := [(2, .int (nI 0)), (0, .ref (ad 0)), (1, .int (nI b))]) E.1 E.2.1 dX0_packBlock_1 rfl hl (by decide) rfl (fun ls hl => ?_)
  refine w_lq2 (fun (c : Nat) (u : (Nat → Int64) × (Nat → Int64) × (Nat → Nat) × (Nat → Nat)) => c ≤ 4 ∧ (∀ d, d < c → Pk T b d u.1 u.2.1 u.2.2.1 u.2.2.2) ∧ ∀ i, (i < b * 4 ∨ b * 4 + 4 ≤ i) → u.1 i = lo i ∧ u.2.1 i = hi i ∧ u.2.2.1 i = bw i ∧ u.2.2.2 i = bb i) (fun (c : Nat) (u : (Nat → Int64) × (Nat → Int64) × (Nat → Nat) × (Nat → Nat)) => 4 - c) (fun (c : Nat) (u : (Nat → Int64) × (Nat → Int64) × (Nat → Nat) × (Nat → Nat)) => [(2, .int (nI c)), (0, .ref (ad 0)), (1, .int (nI b))]) (fun (c : Nat) (u : (Nat → Int64) × (Nat → Int64) × (Nat → Nat) × (Nat → Nat)) H locs => va_P D c2 (wX ad ca T n kc ko kv k u.1 u.2.1 u.2.2.1 u.2.2.2 pk) H ∧ va_S (fA ad 10) s.heap H locs) 0 (lo, hi, bw, bb) (⟨by omega, fun d h => by omega, fun i _ => ⟨rfl, rfl, rfl, rfl⟩⟩) ⟨hP, hS⟩ (lv_sub hl [0, 1, 2] rfl) (fun c u ls H locs hI hB hl ih2 => ?_)
  obtain ⟨hP, hS⟩ := hB
  have hl : lv_has ls 3 [(2, .int (nI c)), (0, .ref (ad 0)), (1, .int (nI b))] := hl
  have hP : va_P D c2 (wX ad ca T n kc ko kv k u.1 u.2.1 u.2.2.1 u.2.2.2 pk) H := hP
  obtain ⟨hc0, hPk, hU⟩ := hI
  refine lv_iload_n E.1 E.2.1 dX0_packBlock_2 rfl (lv_at hl 0 rfl) ?_
  refine lv_iconst (v := nI 4) E.1 E.2.1 dX0_packBlock_3 rfl ?_
  refine n_icmp_ge (tgt := 19) E dX0_packBlock_4 rfl (by omega) (by omega) (fun h4 => ?_) (fun h4 => ?_)
  · skip
    exact e_wv E hr hlk hS u (⟨fun d hd => hPk d (by omega), hU⟩) hP dX0_packBlock_19
  · skip
    refine lv_aload_n E.1 E.2.1 dX0_packBlock_7 rfl (lv_at hl 1 rfl) ?_
    refine lv_iload_n E.1 E.2.1 dX0_packBlock_8 rfl (lv_at hl 2 rfl) ?_
    refine lv_iload_n E.1 E.2.1 dX0_packBlock_9 rfl (lv_at hl 0 rfl) ?_
    refine cV_wv E (As := [.int (nI b), .int (nI c)]) (rest := []) (cX_packColumn l D ad ca T n kc ko kv k u.1 u.2.1 u.2.2.1 u.2.2.2 pk b c hN (by omega) (by omega)) kX_159 hK hP hS (fun _ h => h) 0 rfl rfl rfl rfl ⟨Nat.le_of_ble_eq_true rfl, Nat.le_of_ble_eq_true rfl⟩ rfl hl.1 rfl (Nat.le_of_ble_eq_true rfl) dX0_packBlock_10 ⟨Nat.zero_le _, Nat.zero_le _⟩ (fun u10 H locs hp10 hP _ _ hS => ?_)
    have hP : va_P D c2 (wX ad ca T n kc ko kv k (fS u.1 (b * 4 + c) (mn (xb T b c) 15)) (fS u.2.1 (b * 4 + c) (mx (xb T b c) 15)) (fS u.2.2.1 (b * 4 + c) (pck (xb T b c) (cb c)).1) (fS u.2.2.2 (b * 4 + c) (pck (xb T b c) (cb c)).2) pk) H := hP
    refine lv_iinc (k := 0) (v := nI (c + 1)) (lv' := [(2, .int (nI (c + 1))), (0, .ref (ad 0)), (1, .int (nI b))]) E.1 E.2.1 dX0_packBlock_13 hl rfl (inc1 _) (by decide) rfl (fun ls hl => ?_)
    refine lv_goto (tgt := 2) E.1 E.2.1 dX0_packBlock_16 rfl ?_
    exact ih2 (c + 1) (fS u.1 (b * 4 + c) (mn (xb T b c) 15), fS u.2.1 (b * 4 + c) (mx (xb T b c) 15), fS u.2.2.1 (b * 4 + c) (pck (xb T b c) (cb c)).1, fS u.2.2.2 (b * 4 + c) (pck (xb T b c) (cb c)).2) _ _ _ (⟨by omega, qk_s hPk, fun i hi => qu_s (hU i hi) (by omega)⟩) (by omega) ⟨hP, hS⟩ (lv_sub hl [0, 1, 2] rfl)
set_option maxHeartbeats 4000000 in
set_option maxRecDepth 100000 in
theorem cX_packFullBlocks (l : Launch) (D : va_G) (ad : Nat → Nat) (ca : Nat → ClassId) (T : Nat → Nat → Int64) (n : Nat) (kc ko : Nat → Nat) (kv : Nat → Int64) (k : Nat) (lo hi : Nat → Int64) (bw bb pk : Nat → Nat)  (hN : inj ad 10) (hn128 : n ≤ 128) : Met l yX0_packFullBlocks (wA yX0_packFullBlocks cX0_packFullBlocks 2 none) (rN 4) (va_Pc [.ref (ad 0)] (pW D c2 (tX ca) (wX ad ca T n kc ko kv k lo hi bw bb pk))) (qV (fun (u : (Nat → Int64) × (Nat → Int64) × (Nat → Nat) × (Nat → Nat)) => (∀ b c, b < n / 16 → c < 4 → Pk T b c u.1 u.2.1 u.2.2.1 u.2.2.2)) D c2 (fun u => wX ad ca T n kc ko kv k u.1 u.2.1 u.2.2.1 u.2.2.2 pk) (fA ad 10)) 0 0 (fA ad 10) := by
  refine met_of RX0 rfl (by decide) (Nat.le_of_ble_eq_true rfl) (fun p e s m below meth cd ls E hr hlk _ hB hl => ?_)
  obtain ⟨hP, hK⟩ := hB
  have hl : lv_has ls 2 [(0, .ref (ad 0))] := hl
  have hS : va_S (fA ad 10) s.heap s.heap [] := va_S.rf
  refine lv_iconst (v := nI 0) E.1 E.2.1 dX0_packFullBlocks_0 rfl ?_
  refine lv_istore_n (lv' := [(1, .int (nI 0)), (0, .ref (ad 0))]) E.1 E.2.1 dX0_packFullBlocks_1 rfl hl (by decide) rfl (fun ls hl => ?_)
  refine w_lq2 (fun (b : Nat) (u : (Nat → Int64) × (Nat → Int64) × (Nat → Nat) × (Nat → Nat)) => b ≤ n / 16 ∧ (∀ a c, a < b → c < 4 → Pk T a c u.1 u.2.1 u.2.2.1 u.2.2.2)) (fun (b : Nat) (u : (Nat → Int64) × (Nat → Int64) × (Nat → Nat) × (Nat → Nat)) => n / 16 - b) (fun (b : Nat) (u : (Nat → Int64) × (Nat → Int64) × (Nat → Nat) × (Nat → Nat)) => [(1, .int (nI b)), (0, .ref (ad 0))]) (fun (b : Nat) (u : (Nat → Int64) × (Nat → Int64) × (Nat → Nat) × (Nat → Nat)) H locs => va_P D c2 (wX ad ca T n kc ko kv k u.1 u.2.1 u.2.2.1 u.2.2.2 pk) H ∧ va_S (fA ad 10) s.heap H locs) 0 (lo, hi, bw, bb) (⟨Nat.zero_le _, fun a c h => by omega⟩) ⟨hP, hS⟩ (lv_sub hl [0, 1] rfl) (fun b u ls H locs hI hB hl ih2 => ?_)
  obtain ⟨hP, hS⟩ := hB
  have hl : lv_has ls 2 [(1, .int (nI b)), (0, .ref (ad 0))] := hl
  have hP : va_P D c2 (wX ad ca T n kc ko kv k u.1 u.2.1 u.2.2.1 u.2.2.2 pk) H := hP
  obtain ⟨hb1, hPk⟩ := hI
  refine lv_iload_n E.1 E.2.1 dX0_packFullBlocks_2 rfl (lv_at hl 0 rfl) ?_
  refine lv_aload_n E.1 E.2.1 dX0_packFullBlocks_3 rfl (lv_at hl 1 rfl) ?_
  refine cV_i E (As := []) (rest := [.int (nI b)]) (cX_fullBlocks l D ad ca T n kc ko kv k u.1 u.2.1 u.2.2.1 u.2.2.2 pk (by omega)) kX_135 hK hP 0 rfl rfl rfl rfl ⟨Nat.le_of_ble_eq_true rfl, Nat.le_of_ble_eq_true rfl⟩ rfl hl.1 rfl (Nat.le_of_ble_eq_true rfl) dX0_packFullBlocks_4 ⟨Nat.zero_le _, Nat.zero_le _⟩ ?_
  refine n_icmp_ge (tgt := 21) E dX0_packFullBlocks_7 rfl (by omega) (by omega) (fun h7 => ?_) (fun h7 => ?_)
  · skip
    exact e_wv E hr hlk hS u (fun a c ha hc => hPk a c (by omega) hc) hP dX0_packFullBlocks_21
  · skip
    refine lv_aload_n E.1 E.2.1 dX0_packFullBlocks_10 rfl (lv_at hl 1 rfl) ?_
    refine lv_iload_n E.1 E.2.1 dX0_packFullBlocks_11 rfl (lv_at hl 0 rfl) ?_
    refine cV_wv E (As := [.int (nI b)]) (rest := []) (cX_packBlock l D ad ca T n kc ko kv k u.1 u.2.1 u.2.2.1 u.2.2.2 pk b hN (by omega)) kX_56 hK hP hS (fun _ h => h) 0 rfl rfl rfl rfl ⟨Nat.le_of_ble_eq_true rfl, Nat.le_of_ble_eq_true rfl⟩ rfl hl.1 rfl (Nat.le_of_ble_eq_true rfl) dX0_packFullBlocks_12 ⟨Nat.zero_le _, Nat.zero_le _⟩ (fun u12 H locs hp12 hP _ _ hS => ?_)
    have hP : va_P D c2 (wX ad ca T n kc ko kv k u12.1 u12.2.1 u12.2.2.1 u12.2.2.2 pk) H := hP
    refine lv_iinc (k := 0) (v := nI (b + 1)) (lv' := [(1, .int (nI (b + 1))), (0, .ref (ad 0))]) E.1 E.2.1 dX0_packFullBlocks_15 hl rfl (inc1 _) (by decide) rfl (fun ls hl => ?_)
    refine lv_goto (tgt := 2) E.1 E.2.1 dX0_packFullBlocks_18 rfl ?_
    exact ih2 (b + 1) u12 _ _ _ (⟨by omega, qk_b hPk hp12.1 hp12.2⟩) (by omega) ⟨hP, hS⟩ (lv_sub hl [0, 1] rfl)
set_option maxHeartbeats 4000000 in
set_option maxRecDepth 100000 in
theorem cX_moveRow (l : Launch) (D : va_G) (ad : Nat → Nat) (ca : Nat → ClassId) (T : Nat → Nat → Int64) (n : Nat) (kc ko : Nat → Nat) (kv : Nat → Int64) (k : Nat) (lo hi : Nat → Int64) (bw bb pk : Nat → Nat) (a b : Nat) (hN : inj ad 10) (ha0 : a < 128) (hb0 : b < 128) : Met l yX0_moveRow (wA yX0_moveRow cX0_moveRow 4 none) (rN 1) (va_Pc [.ref (ad 0), .int (nI a), .int (nI b)] (pW D c2 (tX ca) (wX ad ca T n kc ko kv k lo hi bw bb pk))) (qV (fun (_ : Unit) => True) D c2 (fun _ => wX ad ca (mvR T a b 4) n kc ko kv k lo hi bw bb pk) (fA ad 10)) 0 0 (fA ad 10) := by
  refine met_of RX0 rfl (by decide) (Nat.le_of_ble_eq_true rfl) (fun p e s m below meth cd ls E hr hlk _ hB hl => ?_)
  obtain ⟨hP, hK⟩ := hB
  have hl : lv_has ls 4 [(0, .ref (ad 0)), (1, .int (nI a)), (2, .int (nI b))] := hl
  have hS : va_S (fA ad 10) s.heap s.heap [] := va_S.rf
  refine lv_iconst (v := nI 0) E.1 E.2.1 dX0_moveRow_0 rfl ?_
  refine lv_istore_n (lv' := [(3, .int (nI 0)), (0, .ref (ad 0)), (1, .int (nI a)), (2, .int (nI b))]) E.1 E.2.1 dX0_moveRow_1 rfl hl (by decide) rfl (fun ls hl => ?_)
  rw [← mvR_0 T a b] at hP
  refine w_lq1 (fun (d : Nat) => d ≤ 4) (fun (d : Nat) => 4 - d) (fun (d : Nat) => [(3, .int (nI d)), (0, .ref (ad 0)), (1, .int (nI a)), (2, .int (nI b))]) (fun (d : Nat) H locs => va_P D c2 (wX ad ca (mvR T a b d) n kc ko kv k lo hi bw bb pk) H ∧ va_S (fA ad 10) s.heap H locs) 0 (Nat.zero_le _) ⟨hP, hS⟩ (lv_sub hl [0, 1, 2, 3] rfl) (fun d ls H locs hI hB hl ih2 => ?_)
  obtain ⟨hP, hS⟩ := hB
  have hl : lv_has ls 4 [(3, .int (nI d)), (0, .ref (ad 0)), (1, .int (nI a)), (2, .int (nI b))] := hl
  have hP : va_P D c2 (wX ad ca (mvR T a b d) n kc ko kv k lo hi bw bb pk) H := hP
  refine lv_iload_n E.1 E.2.1 dX0_moveRow_2 rfl (lv_at hl 0 rfl) ?_
  refine lv_iconst (v := nI 4) E.1 E.2.1 dX0_moveRow_3 rfl ?_
  refine n_icmp_ge (tgt := 33) E dX0_moveRow_4 rfl (by omega) (by omega) (fun h4 => ?_) (fun h4 => ?_)
  · skip
    exact e_wv E hr hlk hS () trivial (by rw [show d = 4 by omega] at hP; exact hP) dX0_moveRow_33
  · skip
    refine lv_aload_n E.1 E.2.1 dX0_moveRow_7 rfl (lv_at hl 1 rfl) ?_
    refine n_get E inX hK hP 0 rfl rfl 0 (by decide) flX_9 rfl rfl dX0_moveRow_8 ?_
    refine lv_iload_n E.1 E.2.1 dX0_moveRow_11 rfl (lv_at hl 3 rfl) ?_
    refine lv_iload_n E.1 E.2.1 dX0_moveRow_12 rfl (lv_at hl 0 rfl) ?_
    refine cS_i E (As := [.int (nI b), .int (nI d)]) (rest := [.ref (ad 1)]) (cX_spot l b d) kX_52 rfl rfl ⟨Nat.le_of_ble_eq_true rfl, Nat.le_of_ble_eq_true rfl⟩ rfl hl.1 rfl (Nat.le_of_ble_eq_true rfl) dX0_moveRow_13 ⟨Nat.zero_le _, Nat.zero_le _⟩ ?_
    refine lv_aload_n E.1 E.2.1 dX0_moveRow_16 rfl (lv_at hl 1 rfl) ?_
    refine n_get E inX hK hP 0 rfl rfl 0 (by decide) flX_9 rfl rfl dX0_moveRow_17 ?_
    refine lv_iload_n E.1 E.2.1 dX0_moveRow_20 rfl (lv_at hl 2 rfl) ?_
    refine lv_iload_n E.1 E.2.1 dX0_moveRow_21 rfl (lv_at hl 0 rfl) ?_
    refine cS_i E (As := [.int (nI a), .int (nI d)]) (rest := [.ref (ad 1), .int (nI (d * 128 + b)), .ref (ad 1)]) (cX_spot l a d) kX_52 rfl rfl ⟨Nat.le_of_ble_eq_true rfl, Nat.le_of_ble_eq_true rfl⟩ rfl hl.1 rfl (Nat.le_of_ble_eq_true rfl) dX0_moveRow_22 ⟨Nat.zero_le _, Nat.zero_le _⟩ ?_
    refine n_cald E hK hP 1 0 rfl rfl a d (by omega) (by omega) (by omega) dX0_moveRow_25 ?_
    refine n_cast E hK hP (dW hN rfl) hS 1 0 rfl rfl b d (by omega) (by omega) (by omega) dX0_moveRow_26 (fun H locs hP hS => ?_)
    have hP : va_P D c2 (wX ad ca (tS (mvR T a b d) b d (mvR T a b d a d)) n kc ko kv k lo hi bw bb pk) H := hP
    refine lv_iinc (k := 0) (v := nI (d + 1)) (lv' := [(3, .int (nI (d + 1))), (0, .ref (ad 0)), (1, .int (nI a)), (2, .int (nI b))]) E.1 E.2.1 dX0_moveRow_27 hl rfl (inc1 _) (by decide) rfl (fun ls hl => ?_)
    refine lv_goto (tgt := 2) E.1 E.2.1 dX0_moveRow_30 rfl ?_
    rw [mvR_s] at hP
    exact ih2 (d + 1) _ _ _ (by omega) (by omega) ⟨hP, hS⟩ (lv_sub hl [0, 1, 2, 3] rfl)
end
section
/-! Contracts of the hall: laid by program (wip/whole/gen.py). -/
set_option maxHeartbeats 4000000 in
set_option maxRecDepth 100000 in
theorem cX_refuseBadColumn (l : Launch) (c : Nat) (hc : c < 4) : Met l yX0_refuseBadColumn (wA yX0_refuseBadColumn cX0_refuseBadColumn 1 none) (rN 0) (va_Pc [.int (nI c)] (fun _ => True)) (va_Sv (fun _ => True)) 0 0 (fun _ => False) := by
  refine met_of RX0 rfl (by decide) (Nat.le_of_ble_eq_true rfl) (fun p e s m below meth cd ls E hr hlk _ hB hl => ?_)
  have hl : lv_has ls 1 [(0, .int (nI c))] := hl
  refine lv_iload_n E.1 E.2.1 dX0_refuseBadColumn_0 rfl (lv_at hl 0 rfl) ?_
  refine n_if_lt (tgt := 9) E dX0_refuseBadColumn_1 rfl (by omega) ?_
  refine lv_iload_n E.1 E.2.1 dX0_refuseBadColumn_4 rfl (lv_at hl 0 rfl) ?_
  refine lv_iconst (v := nI 4) E.1 E.2.1 dX0_refuseBadColumn_5 rfl ?_
  refine n_icmp_lt (tgt := 19) E dX0_refuseBadColumn_6 rfl (by omega) (by omega) (fun h6 => ?_) (fun h6 => ?_)
  · skip
    exact e_v E hr hlk dX0_refuseBadColumn_19
  · skip
    exfalso; omega
set_option maxHeartbeats 4000000 in
set_option maxRecDepth 100000 in
theorem cX_refuseUnpackedBlock (l : Launch) (D : va_G) (ad : Nat → Nat) (ca : Nat → ClassId) (T : Nat → Nat → Int64) (n : Nat) (kc ko : Nat → Nat) (kv : Nat → Int64) (k : Nat) (lo hi : Nat → Int64) (bw bb pk : Nat → Nat) (b : Nat) (hn128 : n ≤ 128) (hb : b < n / 16) : Met l yX0_refuseUnpackedBlock (wA yX0_refuseUnpackedBlock cX0_refuseUnpackedBlock 2 none) (rN 1) (va_Pc [.ref (ad 0), .int (nI b)] (pW D c2 (tX ca) (wX ad ca T n kc ko kv k lo hi bw bb pk))) (va_Sv (fun _ => True)) 0 0 (fun _ => False) := by
  refine met_of RX0 rfl (by decide) (Nat.le_of_ble_eq_true rfl) (fun p e s m below meth cd ls E hr hlk _ hB hl => ?_)
  obtain ⟨hP, hK⟩ := hB
  have hl : lv_has ls 2 [(0, .ref (ad 0)), (1, .int (nI b))] := hl
  refine lv_iload_n E.1 E.2.1 dX0_refuseUnpackedBlock_0 rfl (lv_at hl 1 rfl) ?_
  refine n_if_lt (tgt := 12) E dX0_refuseUnpackedBlock_1 rfl (by omega) ?_
  refine lv_iload_n E.1 E.2.1 dX0_refuseUnpackedBlock_4 rfl (lv_at hl 1 rfl) ?_
  refine lv_aload_n E.1 E.2.1 dX0_refuseUnpackedBlock_5 rfl (lv_at hl 0 rfl) ?_
  refine cV_i E (As := []) (rest := [.int (nI b)]) (cX_fullBlocks l D ad ca T n kc ko kv k lo hi bw bb pk (by omega)) kX_135 hK hP 0 rfl rfl rfl rfl ⟨Nat.le_of_ble_eq_true rfl, Nat.le_of_ble_eq_true rfl⟩ rfl hl.1 rfl (Nat.le_of_ble_eq_true rfl) dX0_refuseUnpackedBlock_6 ⟨Nat.zero_le _, Nat.zero_le _⟩ ?_
  refine n_icmp_lt (tgt := 22) E dX0_refuseUnpackedBlock_9 rfl (by omega) (by omega) (fun h9 => ?_) (fun h9 => ?_)
  · skip
    exact e_v E hr hlk dX0_refuseUnpackedBlock_22
  · skip
    exfalso; omega
set_option maxHeartbeats 4000000 in
set_option maxRecDepth 100000 in
theorem cX_comesBefore (l : Launch) (x y : Int64) (d : Bool)  : Met l yX0_comesBefore (wA yX0_comesBefore cX0_comesBefore 5 (some .boolean)) (rN 0) (va_Pc [.long x, .long y, .int (bI d)] (fun _ => True)) (vp_Si (fun z => z = bI (bef d x y))) 0 0 (fun _ => False) := by
  refine met_of RX0 rfl (by decide) (Nat.le_of_ble_eq_true rfl) (fun p e s m below meth cd ls E hr hlk _ hB hl => ?_)
  have hl : lv_has ls 5 [(0, .long x), (2, .long y), (4, .int (bI d))] := hl
  refine lv_iload E.1 E.2.1 dX0_comesBefore_0 (lv_at hl 2 rfl) ?_
  refine b_if_eq (tgt := 19) E dX0_comesBefore_2 rfl (fun h2 => ?_) (fun h2 => ?_)
  · skip
    refine lv_lload_n E.1 E.2.1 dX0_comesBefore_19 rfl (lv_at hl 0 rfl) ?_
    refine lv_lload_n E.1 E.2.1 dX0_comesBefore_20 rfl (lv_at hl 1 rfl) ?_
    refine l_if_ge (tgt := 29) E dX0_comesBefore_21 dX0_comesBefore_22 rfl (fun h21 => ?_) (fun h21 => ?_)
    · skip
      refine lv_iconst (v := nI 0) E.1 E.2.1 dX0_comesBefore_29 rfl ?_
      exact e_z E hr hlk (show _ = _ from congrArg bI (show false = _ from by simp [bef, h2, h21])) dX0_comesBefore_30
    · skip
      refine lv_iconst (v := nI 1) E.1 E.2.1 dX0_comesBefore_25 rfl ?_
      refine lv_goto (tgt := 30) E.1 E.2.1 dX0_comesBefore_26 rfl ?_
      exact e_z E hr hlk (show _ = _ from congrArg bI (show true = _ from by simp [bef, h2, h21])) dX0_comesBefore_30
  · skip
    refine lv_lload_n E.1 E.2.1 dX0_comesBefore_5 rfl (lv_at hl 0 rfl) ?_
    refine lv_lload_n E.1 E.2.1 dX0_comesBefore_6 rfl (lv_at hl 1 rfl) ?_
    refine l_if_le (tgt := 15) E dX0_comesBefore_7 dX0_comesBefore_8 rfl (fun h7 => ?_) (fun h7 => ?_)
    · skip
      refine lv_iconst (v := nI 0) E.1 E.2.1 dX0_comesBefore_15 rfl ?_
      refine lv_goto (tgt := 30) E.1 E.2.1 dX0_comesBefore_16 rfl ?_
      exact e_z E hr hlk (show _ = _ from congrArg bI (show false = _ from by simp [bef, h2, h7])) dX0_comesBefore_30
    · skip
      refine lv_iconst (v := nI 1) E.1 E.2.1 dX0_comesBefore_11 rfl ?_
      refine lv_goto (tgt := 30) E.1 E.2.1 dX0_comesBefore_12 rfl ?_
      exact e_z E hr hlk (show _ = _ from congrArg bI (show true = _ from by simp [bef, h2, h7])) dX0_comesBefore_30
set_option maxHeartbeats 4000000 in
set_option maxRecDepth 100000 in
theorem cX_sumOfPicked (l : Launch) (D : va_G) (ad : Nat → Nat) (ca : Nat → ClassId) (T : Nat → Nat → Int64) (n : Nat) (kc ko : Nat → Nat) (kv : Nat → Int64) (k : Nat) (lo hi : Nat → Int64) (bw bb pk : Nat → Nat) (c a b : Nat) (hc : c < 4) (hab : a ≤ b) (hb : b ≤ 128) (hpk : ∀ j, j < b → pk j < 128) : Met l yX0_sumOfPicked (wA yX0_sumOfPicked cX0_sumOfPicked 7 (some .long)) (rN 1) (va_Pc [.ref (ad 0), .int (nI c), .int (nI a), .int (nI b)] (pW D c2 (tX ca) (wX ad ca T n kc ko kv k lo hi bw bb pk))) (vp_Sl (fun z => z = sm (fun j => T (pk (a + j)) c) (b - a))) 0 0 (fun _ => False) := by
  refine met_of RX0 rfl (by decide) (Nat.le_of_ble_eq_true rfl) (fun p e s m below meth cd ls E hr hlk _ hB hl => ?_)
  obtain ⟨hP, hK⟩ := hB
  have hl : lv_has ls 7 [(0, .ref (ad 0)), (1, .int (nI c)), (2, .int (nI a)), (3, .int (nI b))] := hl
  refine lv_lconst (v := 0) E.1 E.2.1 dX0_sumOfPicked_0 rfl ?_
  refine lv_lstore (lv' := [(4, .long 0), (0, .ref (ad 0)), (1, .int (nI c)), (2, .int (nI a)), (3, .int (nI b))]) E.1 E.2.1 dX0_sumOfPicked_1 hl (by decide) rfl (fun ls hl => ?_)
  refine lv_iload_n E.1 E.2.1 dX0_sumOfPicked_3 rfl (lv_at hl 3 rfl) ?_
  refine lv_istore (lv' := [(6, .int (nI a)), (4, .long 0), (0, .ref (ad 0)), (1, .int (nI c)), (2, .int (nI a)), (3, .int (nI b))]) E.1 E.2.1 dX0_sumOfPicked_4 hl (by decide) rfl (fun ls hl => ?_)
  refine w_lp1 (fun (d : Nat) => a + d ≤ b) (fun (d : Nat) => b - (a + d)) (fun (d : Nat) => [(6, .int (nI (a + d))), (4, .long (sm (fun j => T (pk (a + j)) c) d)), (0, .ref (ad 0)), (1, .int (nI c)), (2, .int (nI a)), (3, .int (nI b))]) 0 (by omega) (lv_sub hl [0, 1, 2, 3, 4, 5] rfl) (fun d ls hI hl ih6 => ?_)
  have hl : lv_has ls 7 [(6, .int (nI (a + d))), (4, .long (sm (fun j => T (pk (a + j)) c) d)), (0, .ref (ad 0)), (1, .int (nI c)), (2, .int (nI a)), (3, .int (nI b))] := hl
  refine lv_iload E.1 E.2.1 dX0_sumOfPicked_6 (lv_at hl 0 rfl) ?_
  refine lv_iload_n E.1 E.2.1 dX0_sumOfPicked_8 rfl (lv_at hl 5 rfl) ?_
  refine n_icmp_ge (tgt := 39) E dX0_sumOfPicked_9 rfl (by omega) (by omega) (fun h9 => ?_) (fun h9 => ?_)
  · skip
    refine lv_lload E.1 E.2.1 dX0_sumOfPicked_39 (lv_at hl 1 rfl) ?_
    exact e_l E hr hlk (by rw [show b - a = d by omega]) dX0_sumOfPicked_41
  · skip
    refine lv_lload E.1 E.2.1 dX0_sumOfPicked_12 (lv_at hl 1 rfl) ?_
    refine lv_aload_n E.1 E.2.1 dX0_sumOfPicked_14 rfl (lv_at hl 2 rfl) ?_
    refine n_get E inX hK hP 0 rfl rfl 0 (by decide) flX_9 rfl rfl dX0_sumOfPicked_15 ?_
    refine lv_aload_n E.1 E.2.1 dX0_sumOfPicked_18 rfl (lv_at hl 2 rfl) ?_
    refine n_get E inX hK hP 0 rfl rfl 10 (by decide) flX_42 rfl rfl dX0_sumOfPicked_19 ?_
    refine lv_iload E.1 E.2.1 dX0_sumOfPicked_22 (lv_at hl 0 rfl) ?_
    have hq := hpk (a + d) (by omega)
    refine n_iald E hK hP 9 8 rfl rfl (by decide) (by omega) dX0_sumOfPicked_24 ?_
    refine lv_iload_n E.1 E.2.1 dX0_sumOfPicked_25 rfl (lv_at hl 3 rfl) ?_
    refine cS_i E (As := [.int (nI (pk (a + d))), .int (nI c)]) (rest := [.ref (ad 1), .long (sm (fun j => T (pk (a + j)) c) d)]) (cX_spot l (pk (a + d)) c) kX_52 rfl rfl ⟨Nat.le_of_ble_eq_true rfl, Nat.le_of_ble_eq_true rfl⟩ rfl hl.1 rfl (Nat.le_of_ble_eq_true rfl) dX0_sumOfPicked_26 ⟨Nat.zero_le _, Nat.zero_le _⟩ ?_
    refine n_cald E hK hP 1 0 rfl rfl (pk (a + d)) c (by omega) (by omega) (by omega) dX0_sumOfPicked_29 ?_
    refine lv_ladd E.1 E.2.1 dX0_sumOfPicked_30 ?_
    refine lv_lstore (lv' := [(4, .long ((sm (fun j => T (pk (a + j)) c) d) + (T (pk (a + d)) c))), (6, .int (nI (a + d))), (0, .ref (ad 0)), (1, .int (nI c)), (2, .int (nI a)), (3, .int (nI b))]) E.1 E.2.1 dX0_sumOfPicked_31 hl (by decide) rfl (fun ls hl => ?_)
    refine lv_iinc (k := 1) (v := nI (a + d + 1)) (lv' := [(6, .int (nI (a + d + 1))), (4, .long ((sm (fun j => T (pk (a + j)) c) d) + (T (pk (a + d)) c))), (0, .ref (ad 0)), (1, .int (nI c)), (2, .int (nI a)), (3, .int (nI b))]) E.1 E.2.1 dX0_sumOfPicked_33 hl rfl (inc1 _) (by decide) rfl (fun ls hl => ?_)
    refine lv_goto (tgt := 6) E.1 E.2.1 dX0_sumOfPicked_36 rfl ?_
    exact ih6 (d + 1) _ (by omega) (by omega) (lv_sub hl [0, 1, 2, 3, 4, 5] rfl)
set_option maxHeartbeats 4000000 in
set_option maxRecDepth 100000 in
theorem cX_boundOfPicked (l : Launch) (D : va_G) (ad : Nat → Nat) (ca : Nat → ClassId) (T : Nat → Nat → Int64) (n : Nat) (kc ko : Nat → Nat) (kv : Nat → Int64) (k : Nat) (lo hi : Nat → Int64) (bw bb pk : Nat → Nat) (c : Nat) (d : Bool) (a b : Nat) (hc : c < 4) (hab : a < b) (hb : b ≤ 128) (hpk : ∀ j, j < b → pk j < 128) : Met l yX0_boundOfPicked (wA yX0_boundOfPicked cX0_boundOfPicked 10 (some .long)) (rN 1) (va_Pc [.ref (ad 0), .int (nI c), .int (bI d), .int (nI a), .int (nI b)] (pW D c2 (tX ca) (wX ad ca T n kc ko kv k lo hi bw bb pk))) (vp_Sl (fun z => z = bnd (fun j => T (pk (a + j)) c) d (b - a - 1))) 0 0 (fun _ => False) := by
  refine met_of RX0 rfl (by decide) (Nat.le_of_ble_eq_true rfl) (fun p e s m below meth cd ls E hr hlk _ hB hl => ?_)
  obtain ⟨hP, hK⟩ := hB
  have hl : lv_has ls 10 [(0, .ref (ad 0)), (1, .int (nI c)), (2, .int (bI d)), (3, .int (nI a)), (4, .int (nI b))] := hl
  refine lv_aload_n E.1 E.2.1 dX0_boundOfPicked_0 rfl (lv_at hl 0 rfl) ?_
  refine n_get E inX hK hP 0 rfl rfl 0 (by decide) flX_9 rfl rfl dX0_boundOfPicked_1 ?_
  refine lv_aload_n E.1 E.2.1 dX0_boundOfPicked_4 rfl (lv_at hl 0 rfl) ?_
  refine n_get E inX hK hP 0 rfl rfl 10 (by decide) flX_42 rfl rfl dX0_boundOfPicked_5 ?_
  refine lv_iload_n E.1 E.2.1 dX0_boundOfPicked_8 rfl (lv_at hl 3 rfl) ?_
  have hq := hpk a (by omega)
  refine n_iald E hK hP 9 8 rfl rfl (by decide) (by omega) dX0_boundOfPicked_9 ?_
  refine lv_iload_n E.1 E.2.1 dX0_boundOfPicked_10 rfl (lv_at hl 1 rfl) ?_
  refine cS_i E (As := [.int (nI (pk a)), .int (nI c)]) (rest := [.ref (ad 1)]) (cX_spot l (pk a) c) kX_52 rfl rfl ⟨Nat.le_of_ble_eq_true rfl, Nat.le_of_ble_eq_true rfl⟩ rfl hl.1 rfl (Nat.le_of_ble_eq_true rfl) dX0_boundOfPicked_11 ⟨Nat.zero_le _, Nat.zero_le _⟩ ?_
  refine n_cald E hK hP 1 0 rfl rfl (pk a) c (by omega) (by omega) (by omega) dX0_boundOfPicked_14 ?_
  refine lv_lstore (lv' := [(5, .long (T (pk a) c)), (0, .ref (ad 0)), (1, .int (nI c)), (2, .int (bI d)), (3, .int (nI a)), (4, .int (nI b))]) E.1 E.2.1 dX0_boundOfPicked_15 hl (by decide) rfl (fun ls hl => ?_)
  refine lv_iload_n E.1 E.2.1 dX0_boundOfPicked_17 rfl (lv_at hl 4 rfl) ?_
  refine lv_iconst (v := nI 1) E.1 E.2.1 dX0_boundOfPicked_18 rfl ?_
  refine n_iadd E dX0_boundOfPicked_19 ?_
  refine lv_istore (lv' := [(7, .int (nI (a + 1))), (5, .long (T (pk a) c)), (0, .ref (ad 0)), (1, .int (nI c)), (2, .int (bI d)), (3, .int (nI a)), (4, .int (nI b))]) E.1 E.2.1 dX0_boundOfPicked_20 hl (by decide) rfl (fun ls hl => ?_)
  refine w_lp1 (fun (j : Nat) => a + (j + 1) ≤ b) (fun (j : Nat) => b - (a + j)) (fun (j : Nat) => [(7, .int (nI (a + (j + 1)))), (5, .long (bnd (fun j => T (pk (a + j)) c) d j)), (0, .ref (ad 0)), (1, .int (nI c)), (2, .int (bI d)), (3, .int (nI a)), (4, .int (nI b))]) 0 (by omega) (lv_sub hl [0, 1, 2, 3, 4, 5, 6] rfl) (fun j ls hI hl ih22 => ?_)
  have hl : lv_has ls 10 [(7, .int (nI (a + (j + 1)))), (5, .long (bnd (fun j => T (pk (a + j)) c) d j)), (0, .ref (ad 0)), (1, .int (nI c)), (2, .int (bI d)), (3, .int (nI a)), (4, .int (nI b))] := hl
  refine lv_iload E.1 E.2.1 dX0_boundOfPicked_22 (lv_at hl 0 rfl) ?_
  refine lv_iload E.1 E.2.1 dX0_boundOfPicked_24 (lv_at hl 6 rfl) ?_
  refine n_icmp_ge (tgt := 80) E dX0_boundOfPicked_26 rfl (by omega) (by omega) (fun h26 => ?_) (fun h26 => ?_)
  · skip
    refine lv_lload E.1 E.2.1 dX0_boundOfPicked_80 (lv_at hl 1 rfl) ?_
    exact e_l E hr hlk (by rw [show b - a - 1 = j by omega]) dX0_boundOfPicked_82
  · skip
    refine lv_aload_n E.1 E.2.1 dX0_boundOfPicked_29 rfl (lv_at hl 2 rfl) ?_
    refine n_get E inX hK hP 0 rfl rfl 0 (by decide) flX_9 rfl rfl dX0_boundOfPicked_30 ?_
    refine lv_aload_n E.1 E.2.1 dX0_boundOfPicked_33 rfl (lv_at hl 2 rfl) ?_
    refine n_get E inX hK hP 0 rfl rfl 10 (by decide) flX_42 rfl rfl dX0_boundOfPicked_34 ?_
    refine lv_iload E.1 E.2.1 dX0_boundOfPicked_37 (lv_at hl 0 rfl) ?_
    have hq := hpk (a + (j + 1)) (by omega)
    refine n_iald E hK hP 9 8 rfl rfl (by decide) (by omega) dX0_boundOfPicked_39 ?_
    refine lv_iload_n E.1 E.2.1 dX0_boundOfPicked_40 rfl (lv_at hl 3 rfl) ?_
    refine cS_i E (As := [.int (nI (pk (a + (j + 1)))), .int (nI c)]) (rest := [.ref (ad 1)]) (cX_spot l (pk (a + (j + 1))) c) kX_52 rfl rfl ⟨Nat.le_of_ble_eq_true rfl, Nat.le_of_ble_eq_true rfl⟩ rfl hl.1 rfl (Nat.le_of_ble_eq_true rfl) dX0_boundOfPicked_41 ⟨Nat.zero_le _, Nat.zero_le _⟩ ?_
    refine n_cald E hK hP 1 0 rfl rfl (pk (a + (j + 1))) c (by omega) (by omega) (by omega) dX0_boundOfPicked_44 ?_
    refine lv_lstore (lv' := [(8, .long (T (pk (a + (j + 1))) c)), (7, .int (nI (a + (j + 1)))), (5, .long (bnd (fun j => T (pk (a + j)) c) d j)), (0, .ref (ad 0)), (1, .int (nI c)), (2, .int (bI d)), (3, .int (nI a)), (4, .int (nI b))]) E.1 E.2.1 dX0_boundOfPicked_45 hl (by decide) rfl (fun ls hl => ?_)
    refine lv_iload_n E.1 E.2.1 dX0_boundOfPicked_47 rfl (lv_at hl 5 rfl) ?_
    refine b_if_eq (tgt := 62) E dX0_boundOfPicked_48 rfl (fun h48 => ?_) (fun h48 => ?_)
    · skip
      refine lv_lload E.1 E.2.1 dX0_boundOfPicked_62 (lv_at hl 0 rfl) ?_
      refine lv_lload E.1 E.2.1 dX0_boundOfPicked_64 (lv_at hl 2 rfl) ?_
      refine l_if_ge (tgt := 74) E dX0_boundOfPicked_66 dX0_boundOfPicked_67 rfl (fun h66 => ?_) (fun h66 => ?_)
      · skip
        refine lv_iinc (k := 1) (v := nI (a + (j + 1) + 1)) (lv' := [(7, .int (nI (a + (j + 1) + 1))), (8, .long (T (pk (a + (j + 1))) c)), (5, .long (bnd (fun j => T (pk (a + j)) c) d j)), (0, .ref (ad 0)), (1, .int (nI c)), (2, .int (bI d)), (3, .int (nI a)), (4, .int (nI b))]) E.1 E.2.1 dX0_boundOfPicked_74 hl rfl (inc1 _) (by decide) rfl (fun ls hl => ?_)
        refine lv_goto (tgt := 22) E.1 E.2.1 dX0_boundOfPicked_77 rfl ?_
        subst h48
        have e9 := bnd_f (f := (fun j => T (pk (a + j)) c)) (bef_Ff h66)
        rw [← e9] at hl
        exact ih22 (j + 1) _ (by omega) (by omega) (lv_sub hl [0, 2, 3, 4, 5, 6, 7] rfl)
      · skip
        refine lv_lload E.1 E.2.1 dX0_boundOfPicked_70 (lv_at hl 0 rfl) ?_
        refine lv_lstore (lv' := [(5, .long (T (pk (a + (j + 1))) c)), (8, .long (T (pk (a + (j + 1))) c)), (7, .int (nI (a + (j + 1)))), (0, .ref (ad 0)), (1, .int (nI c)), (2, .int (bI d)), (3, .int (nI a)), (4, .int (nI b))]) E.1 E.2.1 dX0_boundOfPicked_72 hl (by decide) rfl (fun ls hl => ?_)
        refine lv_iinc (k := 2) (v := nI (a + (j + 1) + 1)) (lv' := [(7, .int (nI (a + (j + 1) + 1))), (5, .long (T (pk (a + (j + 1))) c)), (8, .long (T (pk (a + (j + 1))) c)), (0, .ref (ad 0)), (1, .int (nI c)), (2, .int (bI d)), (3, .int (nI a)), (4, .int (nI b))]) E.1 E.2.1 dX0_boundOfPicked_74 hl rfl (inc1 _) (by decide) rfl (fun ls hl => ?_)
        refine lv_goto (tgt := 22) E.1 E.2.1 dX0_boundOfPicked_77 rfl ?_
        subst h48
        have e9 := bnd_t (f := (fun j => T (pk (a + j)) c)) (bef_Ft h66)
        have e8 : T (pk (a + (j + 1))) c = _ := e9.symm
        rw [e8] at hl
        exact ih22 (j + 1) _ (by omega) (by omega) (lv_sub hl [0, 1, 3, 4, 5, 6, 7] rfl)
    · skip
      refine lv_lload E.1 E.2.1 dX0_boundOfPicked_51 (lv_at hl 0 rfl) ?_
      refine lv_lload E.1 E.2.1 dX0_boundOfPicked_53 (lv_at hl 2 rfl) ?_
      refine l_if_le (tgt := 74) E dX0_boundOfPicked_55 dX0_boundOfPicked_56 rfl (fun h55 => ?_) (fun h55 => ?_)
      · skip
        refine lv_iinc (k := 1) (v := nI (a + (j + 1) + 1)) (lv' := [(7, .int (nI (a + (j + 1) + 1))), (8, .long (T (pk (a + (j + 1))) c)), (5, .long (bnd (fun j => T (pk (a + j)) c) d j)), (0, .ref (ad 0)), (1, .int (nI c)), (2, .int (bI d)), (3, .int (nI a)), (4, .int (nI b))]) E.1 E.2.1 dX0_boundOfPicked_74 hl rfl (inc1 _) (by decide) rfl (fun ls hl => ?_)
        refine lv_goto (tgt := 22) E.1 E.2.1 dX0_boundOfPicked_77 rfl ?_
        subst h48
        have e9 := bnd_f (f := (fun j => T (pk (a + j)) c)) (bef_Tf h55)
        rw [← e9] at hl
        exact ih22 (j + 1) _ (by omega) (by omega) (lv_sub hl [0, 2, 3, 4, 5, 6, 7] rfl)
      · skip
        refine lv_goto (tgt := 70) E.1 E.2.1 dX0_boundOfPicked_59 rfl ?_
        refine lv_lload E.1 E.2.1 dX0_boundOfPicked_70 (lv_at hl 0 rfl) ?_
        refine lv_lstore (lv' := [(5, .long (T (pk (a + (j + 1))) c)), (8, .long (T (pk (a + (j + 1))) c)), (7, .int (nI (a + (j + 1)))), (0, .ref (ad 0)), (1, .int (nI c)), (2, .int (bI d)), (3, .int (nI a)), (4, .int (nI b))]) E.1 E.2.1 dX0_boundOfPicked_72 hl (by decide) rfl (fun ls hl => ?_)
        refine lv_iinc (k := 2) (v := nI (a + (j + 1) + 1)) (lv' := [(7, .int (nI (a + (j + 1) + 1))), (5, .long (T (pk (a + (j + 1))) c)), (8, .long (T (pk (a + (j + 1))) c)), (0, .ref (ad 0)), (1, .int (nI c)), (2, .int (bI d)), (3, .int (nI a)), (4, .int (nI b))]) E.1 E.2.1 dX0_boundOfPicked_74 hl rfl (inc1 _) (by decide) rfl (fun ls hl => ?_)
        refine lv_goto (tgt := 22) E.1 E.2.1 dX0_boundOfPicked_77 rfl ?_
        subst h48
        have e9 := bnd_t (f := (fun j => T (pk (a + j)) c)) (bef_Tt h55)
        have e8 : T (pk (a + (j + 1))) c = _ := e9.symm
        rw [e8] at hl
        exact ih22 (j + 1) _ (by omega) (by omega) (lv_sub hl [0, 1, 3, 4, 5, 6, 7] rfl)
set_option maxHeartbeats 4000000 in
set_option maxRecDepth 100000 in
theorem cX_sortPicked (l : Launch) (D : va_G) (ad : Nat → Nat) (ca : Nat → ClassId) (T : Nat → Nat → Int64) (n : Nat) (kc ko : Nat → Nat) (kv : Nat → Int64) (k : Nat) (lo hi : Nat → Int64) (bw bb pk : Nat → Nat) (m0 c : Nat) (d : Bool) (hN : inj ad 10) (hm128 : m0 ≤ 128) (hc : c < 4) (hup : ∀ i j, i < j → j < m0 → pk i < pk j) (hpk : ∀ j, j < m0 → pk j < 128) : Met l yX0_sortPicked (wA yX0_sortPicked cX0_sortPicked 9 none) (rN 1) (va_Pc [.ref (ad 0), .int (nI m0), .int (nI c), .int (bI d)] (pW D c2 (tX ca) (wX ad ca T n kc ko kv k lo hi bw bb pk))) (qV (fun (q : Nat → Nat) => Sd T c d q m0 ∧ Pm q pk m0) D c2 (fun q => wX ad ca T n kc ko kv k lo hi bw bb q) (fA ad 10)) 0 0 (fA ad 10) := by
  refine met_of RX0 rfl (by decide) (Nat.le_of_ble_eq_true rfl) (fun p e s m below meth cd ls E hr hlk _ hB hl => ?_)
  obtain ⟨hP, hK⟩ := hB
  have hl : lv_has ls 9 [(0, .ref (ad 0)), (1, .int (nI m0)), (2, .int (nI c)), (3, .int (bI d))] := hl
  have hS : va_S (fA ad 10) s.heap s.heap [] := va_S.rf
  refine lv_iconst (v := nI 1) E.1 E.2.1 dX0_sortPicked_0 rfl ?_
  refine lv_istore (lv' := [(4, .int (nI 1)), (0, .ref (ad 0)), (1, .int (nI m0)), (2, .int (nI c)), (3, .int (bI d))]) E.1 E.2.1 dX0_sortPicked_1 hl (by decide) rfl (fun ls hl => ?_)
  refine w_lq2 (fun (i : Nat) (q : Nat → Nat) => 1 ≤ i ∧ i ≤ m0 + 1 ∧ Sd T c d q i ∧ (∀ j, i ≤ j → q j = pk j) ∧ Pm q pk m0 ∧ (∀ j t, j < i → i ≤ t → t < m0 → q j < pk t)) (fun (i : Nat) (q : Nat → Nat) => m0 + 1 - i) (fun (i : Nat) (q : Nat → Nat) => [(4, .int (nI i)), (0, .ref (ad 0)), (1, .int (nI m0)), (2, .int (nI c)), (3, .int (bI d))]) (fun (i : Nat) (q : Nat → Nat) H locs => va_P D c2 (wX ad ca T n kc ko kv k lo hi bw bb q) H ∧ va_S (fA ad 10) s.heap H locs) 1 pk (⟨Nat.le_refl _, by omega, fun a b h1 h2 => by omega, fun _ _ => rfl, Pm.rf _ _, fun j t h1 h2 h3 => hup j t (by omega) h3⟩) ⟨hP, hS⟩ (lv_sub hl [0, 1, 2, 3, 4] rfl) (fun i q ls H locs hI hB hl ih3 => ?_)
  obtain ⟨hP, hS⟩ := hB
  have hl : lv_has ls 9 [(4, .int (nI i)), (0, .ref (ad 0)), (1, .int (nI m0)), (2, .int (nI c)), (3, .int (bI d))] := hl
  have hP : va_P D c2 (wX ad ca T n kc ko kv k lo hi bw bb q) H := hP
  obtain ⟨hi1, hi2, hSd, hge, hPm, hlt⟩ := hI
  refine lv_iload E.1 E.2.1 dX0_sortPicked_3 (lv_at hl 0 rfl) ?_
  refine lv_iload_n E.1 E.2.1 dX0_sortPicked_5 rfl (lv_at hl 2 rfl) ?_
  refine n_icmp_ge (tgt := 104) E dX0_sortPicked_6 rfl (by omega) (by omega) (fun h6 => ?_) (fun h6 => ?_)
  · skip
    exact e_wv E hr hlk hS q (⟨hSd.less (by omega), hPm⟩) hP dX0_sortPicked_104
  · skip
    refine lv_aload_n E.1 E.2.1 dX0_sortPicked_9 rfl (lv_at hl 1 rfl) ?_
    refine n_get E inX hK hP 0 rfl rfl 10 (by decide) flX_42 rfl rfl dX0_sortPicked_10 ?_
    refine lv_iload E.1 E.2.1 dX0_sortPicked_13 (lv_at hl 0 rfl) ?_
    have hq128 := pm_lt hPm hpk
    have hq := hq128 i (by omega)
    refine n_iald E hK hP 9 8 rfl rfl (by decide) (by omega) dX0_sortPicked_15 ?_
    refine lv_istore (lv' := [(5, .int (nI (q i))), (4, .int (nI i)), (0, .ref (ad 0)), (1, .int (nI m0)), (2, .int (nI c)), (3, .int (bI d))]) E.1 E.2.1 dX0_sortPicked_16 hl (by decide) rfl (fun ls hl => ?_)
    refine lv_aload_n E.1 E.2.1 dX0_sortPicked_18 rfl (lv_at hl 2 rfl) ?_
    refine n_get E inX hK hP 0 rfl rfl 0 (by decide) flX_9 rfl rfl dX0_sortPicked_19 ?_
    refine lv_iload E.1 E.2.1 dX0_sortPicked_22 (lv_at hl 0 rfl) ?_
    refine lv_iload_n E.1 E.2.1 dX0_sortPicked_24 rfl (lv_at hl 4 rfl) ?_
    refine cS_i E (As := [.int (nI (q i)), .int (nI c)]) (rest := [.ref (ad 1)]) (cX_spot l (q i) c) kX_52 rfl rfl ⟨Nat.le_of_ble_eq_true rfl, Nat.le_of_ble_eq_true rfl⟩ rfl hl.1 rfl (Nat.le_of_ble_eq_true rfl) dX0_sortPicked_25 ⟨Nat.zero_le _, Nat.zero_le _⟩ ?_
    refine n_cald E hK hP 1 0 rfl rfl (q i) c (by omega) (by omega) (by omega) dX0_sortPicked_28 ?_
    refine lv_lstore (lv' := [(6, .long (T (q i) c)), (5, .int (nI (q i))), (4, .int (nI i)), (0, .ref (ad 0)), (1, .int (nI m0)), (2, .int (nI c)), (3, .int (bI d))]) E.1 E.2.1 dX0_sortPicked_29 hl (by decide) rfl (fun ls hl => ?_)
    refine lv_iload E.1 E.2.1 dX0_sortPicked_31 (lv_at hl 2 rfl) ?_
    refine lv_istore (lv' := [(8, .int (nI i)), (6, .long (T (q i) c)), (5, .int (nI (q i))), (4, .int (nI i)), (0, .ref (ad 0)), (1, .int (nI m0)), (2, .int (nI c)), (3, .int (bI d))]) E.1 E.2.1 dX0_sortPicked_33 hl (by decide) rfl (fun ls hl => ?_)
    rw [← hA_0 q i] at hP
    refine w_lq1 (fun (h : Nat) => h ≤ i ∧ (∀ j, h ≤ j → j < i → bef d (T (q i) c) (T (q j) c) = true)) (fun (h : Nat) => h) (fun (h : Nat) => [(8, .int (nI h)), (4, .int (nI i)), (5, .int (nI (q i))), (6, .long (T (q i) c)), (0, .ref (ad 0)), (1, .int (nI m0)), (2, .int (nI c)), (3, .int (bI d))]) (fun (h : Nat) H locs => va_P D c2 (wX ad ca T n kc ko kv k lo hi bw bb (hA q h i)) H ∧ va_S (fA ad 10) s.heap H locs) i (⟨Nat.le_refl _, fun j h1 h2 => by omega⟩) ⟨hP, hS⟩ (lv_sub hl [0, 3, 2, 1, 4, 5, 6, 7] rfl) (fun h ls H locs hI hB hl ih35 => ?_)
    obtain ⟨hP, hS⟩ := hB
    have hl : lv_has ls 9 [(8, .int (nI h)), (4, .int (nI i)), (5, .int (nI (q i))), (6, .long (T (q i) c)), (0, .ref (ad 0)), (1, .int (nI m0)), (2, .int (nI c)), (3, .int (bI d))] := hl
    have hP : va_P D c2 (wX ad ca T n kc ko kv k lo hi bw bb (hA q h i)) H := hP
    obtain ⟨hh, hm⟩ := hI
    refine lv_iload E.1 E.2.1 dX0_sortPicked_35 (lv_at hl 0 rfl) ?_
    refine n_if_le (tgt := 89) E dX0_sortPicked_37 rfl (by omega) (fun h37 => ?_) (fun h37 => ?_)
    · skip
      refine lv_aload_n E.1 E.2.1 dX0_sortPicked_89 rfl (lv_at hl 4 rfl) ?_
      refine n_get E inX hK hP 0 rfl rfl 10 (by decide) flX_42 rfl rfl dX0_sortPicked_90 ?_
      refine lv_iload E.1 E.2.1 dX0_sortPicked_93 (lv_at hl 0 rfl) ?_
      refine lv_iload E.1 E.2.1 dX0_sortPicked_95 (lv_at hl 2 rfl) ?_
      refine n_iast E hK hP (dW hN rfl) hS 9 8 rfl rfl (by decide) (by omega) dX0_sortPicked_97 (fun H locs hP hS => ?_)
      have hP : va_P D c2 (wX ad ca T n kc ko kv k lo hi bw bb (fS (hA q h i) h (q i))) H := hP
      refine lv_iinc (k := 1) (v := nI (i + 1)) (lv' := [(4, .int (nI (i + 1))), (8, .int (nI h)), (5, .int (nI (q i))), (6, .long (T (q i) c)), (0, .ref (ad 0)), (1, .int (nI m0)), (2, .int (nI c)), (3, .int (bI d))]) E.1 E.2.1 dX0_sortPicked_98 hl rfl (inc1 _) (by decide) rfl (fun ls hl => ?_)
      refine lv_goto (tgt := 3) E.1 E.2.1 dX0_sortPicked_101 rfl ?_
      rw [hA_f] at hP
      exact ih3 (i + 1) (iA q h i) _ _ _ (⟨by omega, by omega, Sd.ins hSd hh (Or.inl h37) hm (fun j hj => by rw [hge i (Nat.le_refl i)]; exact hlt j i hj (Nat.le_refl i) (by omega)), fun j hj => by rw [iA_ge hh (by omega)]; exact hge j (by omega), (pm_iA q (show i < m0 by omega) (i - h) h (by omega)).tr hPm, fun j t h1 h2 h3 => iA_lt h1 (fun j hj => hlt j t hj (by omega) h3) (by rw [hge i (Nat.le_refl i)]; exact hup i t (by omega) h3)⟩) (by omega) ⟨hP, hS⟩ (lv_sub hl [0, 4, 5, 6, 7] rfl)
    · skip
      refine lv_lload E.1 E.2.1 dX0_sortPicked_40 (lv_at hl 3 rfl) ?_
      refine lv_aload_n E.1 E.2.1 dX0_sortPicked_42 rfl (lv_at hl 4 rfl) ?_
      refine n_get E inX hK hP 0 rfl rfl 0 (by decide) flX_9 rfl rfl dX0_sortPicked_43 ?_
      refine lv_aload_n E.1 E.2.1 dX0_sortPicked_46 rfl (lv_at hl 4 rfl) ?_
      refine n_get E inX hK hP 0 rfl rfl 10 (by decide) flX_42 rfl rfl dX0_sortPicked_47 ?_
      refine lv_iload E.1 E.2.1 dX0_sortPicked_50 (lv_at hl 0 rfl) ?_
      refine lv_iconst (v := nI 1) E.1 E.2.1 dX0_sortPicked_52 rfl ?_
      refine n_isub E (by omega) dX0_sortPicked_53 ?_
      have hq2 := hq128 (h - 1) (by omega)
      refine n_iald E hK hP 9 8 rfl rfl (by decide) (by omega) dX0_sortPicked_54 ?_
      refine tpi (y := nI (q (h - 1))) (congrArg nI (hA_at (by omega))) ?_
      refine lv_iload_n E.1 E.2.1 dX0_sortPicked_55 rfl (lv_at hl 6 rfl) ?_
      refine cS_i E (As := [.int (nI (q (h - 1))), .int (nI c)]) (rest := [.ref (ad 1), .long (T (q i) c)]) (cX_spot l (q (h - 1)) c) kX_52 rfl rfl ⟨Nat.le_of_ble_eq_true rfl, Nat.le_of_ble_eq_true rfl⟩ rfl hl.1 rfl (Nat.le_of_ble_eq_true rfl) dX0_sortPicked_56 ⟨Nat.zero_le _, Nat.zero_le _⟩ ?_
      refine n_cald E hK hP 1 0 rfl rfl (q (h - 1)) c (by omega) (by omega) (by omega) dX0_sortPicked_59 ?_
      refine lv_iload_n E.1 E.2.1 dX0_sortPicked_60 rfl (lv_at hl 7 rfl) ?_
      refine cS_i E (As := [.long (T (q i) c), .long (T (q (h - 1)) c), .int (bI d)]) (rest := []) (cX_comesBefore l (T (q i) c) (T (q (h - 1)) c) d) kX_155 rfl rfl ⟨Nat.le_of_ble_eq_true rfl, Nat.le_of_ble_eq_true rfl⟩ rfl hl.1 rfl (Nat.le_of_ble_eq_true rfl) dX0_sortPicked_61 ⟨Nat.zero_le _, Nat.zero_le _⟩ ?_
      refine b_if_eq (tgt := 89) E dX0_sortPicked_64 rfl (fun h64 => ?_) (fun h64 => ?_)
      · skip
        refine lv_aload_n E.1 E.2.1 dX0_sortPicked_89 rfl (lv_at hl 4 rfl) ?_
        refine n_get E inX hK hP 0 rfl rfl 10 (by decide) flX_42 rfl rfl dX0_sortPicked_90 ?_
        refine lv_iload E.1 E.2.1 dX0_sortPicked_93 (lv_at hl 0 rfl) ?_
        refine lv_iload E.1 E.2.1 dX0_sortPicked_95 (lv_at hl 2 rfl) ?_
        refine n_iast E hK hP (dW hN rfl) hS 9 8 rfl rfl (by decide) (by omega) dX0_sortPicked_97 (fun H locs hP hS => ?_)
        have hP : va_P D c2 (wX ad ca T n kc ko kv k lo hi bw bb (fS (hA q h i) h (q i))) H := hP
        refine lv_iinc (k := 1) (v := nI (i + 1)) (lv' := [(4, .int (nI (i + 1))), (8, .int (nI h)), (5, .int (nI (q i))), (6, .long (T (q i) c)), (0, .ref (ad 0)), (1, .int (nI m0)), (2, .int (nI c)), (3, .int (bI d))]) E.1 E.2.1 dX0_sortPicked_98 hl rfl (inc1 _) (by decide) rfl (fun ls hl => ?_)
        refine lv_goto (tgt := 3) E.1 E.2.1 dX0_sortPicked_101 rfl ?_
        rw [hA_f] at hP
        exact ih3 (i + 1) (iA q h i) _ _ _ (⟨by omega, by omega, Sd.ins hSd hh (Or.inr h64) hm (fun j hj => by rw [hge i (Nat.le_refl i)]; exact hlt j i hj (Nat.le_refl i) (by omega)), fun j hj => by rw [iA_ge hh (by omega)]; exact hge j (by omega), (pm_iA q (show i < m0 by omega) (i - h) h (by omega)).tr hPm, fun j t h1 h2 h3 => iA_lt h1 (fun j hj => hlt j t hj (by omega) h3) (by rw [hge i (Nat.le_refl i)]; exact hup i t (by omega) h3)⟩) (by omega) ⟨hP, hS⟩ (lv_sub hl [0, 4, 5, 6, 7] rfl)
      · skip
        refine lv_aload_n E.1 E.2.1 dX0_sortPicked_67 rfl (lv_at hl 4 rfl) ?_
        refine n_get E inX hK hP 0 rfl rfl 10 (by decide) flX_42 rfl rfl dX0_sortPicked_68 ?_
        refine lv_iload E.1 E.2.1 dX0_sortPicked_71 (lv_at hl 0 rfl) ?_
        refine lv_aload_n E.1 E.2.1 dX0_sortPicked_73 rfl (lv_at hl 4 rfl) ?_
        refine n_get E inX hK hP 0 rfl rfl 10 (by decide) flX_42 rfl rfl dX0_sortPicked_74 ?_
        refine lv_iload E.1 E.2.1 dX0_sortPicked_77 (lv_at hl 0 rfl) ?_
        refine lv_iconst (v := nI 1) E.1 E.2.1 dX0_sortPicked_79 rfl ?_
        refine n_isub E (by omega) dX0_sortPicked_80 ?_
        refine n_iald E hK hP 9 8 rfl rfl (by decide) (by omega) dX0_sortPicked_81 ?_
        refine tpi (y := nI (q (h - 1))) (congrArg nI (hA_at (by omega))) ?_
        refine n_iast E hK hP (dW hN rfl) hS 9 8 rfl rfl (by decide) (by omega) dX0_sortPicked_82 (fun H locs hP hS => ?_)
        have hP : va_P D c2 (wX ad ca T n kc ko kv k lo hi bw bb (fS (hA q h i) h (q (h - 1)))) H := hP
        refine lv_iinc (k := 0) (v := nI (h - 1)) (lv' := [(8, .int (nI (h - 1))), (4, .int (nI i)), (5, .int (nI (q i))), (6, .long (T (q i) c)), (0, .ref (ad 0)), (1, .int (nI m0)), (2, .int (nI c)), (3, .int (bI d))]) E.1 E.2.1 dX0_sortPicked_83 hl rfl (dec1 (by omega)) (by decide) rfl (fun ls hl => ?_)
        refine lv_goto (tgt := 35) E.1 E.2.1 dX0_sortPicked_86 rfl ?_
        rw [hA_s q (by omega) (by omega)] at hP
        exact ih35 (h - 1) _ _ _ (⟨by omega, hm_s hm h64⟩) (by omega) ⟨hP, hS⟩ (lv_sub hl [0, 1, 2, 3, 4, 5, 6, 7] rfl)
set_option maxHeartbeats 4000000 in
set_option maxRecDepth 100000 in
theorem cX_startsGroup (l : Launch) (D : va_G) (ad : Nat → Nat) (ca : Nat → ClassId) (T : Nat → Nat → Int64) (n : Nat) (kc ko : Nat → Nat) (kv : Nat → Int64) (k : Nat) (lo hi : Nat → Int64) (bw bb pk : Nat → Nat) (i c m0 : Nat) (hc : c < 4) (hi0 : i < m0) (hm128 : m0 ≤ 128) (hpk : ∀ j, j < m0 → pk j < 128) : Met l yX0_startsGroup (wA yX0_startsGroup cX0_startsGroup 3 (some .boolean)) (rN 1) (va_Pc [.ref (ad 0), .int (nI i), .int (nI c)] (pW D c2 (tX ca) (wX ad ca T n kc ko kv k lo hi bw bb pk))) (vp_Si (fun z => z = bI (sg T c pk i))) 0 0 (fun _ => False) := by
  refine met_of RX0 rfl (by decide) (Nat.le_of_ble_eq_true rfl) (fun p e s m below meth cd ls E hr hlk _ hB hl => ?_)
  obtain ⟨hP, hK⟩ := hB
  have hl : lv_has ls 3 [(0, .ref (ad 0)), (1, .int (nI i)), (2, .int (nI c))] := hl
  refine lv_iload_n E.1 E.2.1 dX0_startsGroup_0 rfl (lv_at hl 1 rfl) ?_
  refine n_if_eq (tgt := 40) E dX0_startsGroup_1 rfl (by omega) (fun h1 => ?_) (fun h1 => ?_)
  · skip
    refine lv_iconst (v := nI 1) E.1 E.2.1 dX0_startsGroup_40 rfl ?_
    refine lv_goto (tgt := 45) E.1 E.2.1 dX0_startsGroup_41 rfl ?_
    exact e_z E hr hlk (show _ = _ from congrArg bI (show true = _ from by simp [sg, h1])) dX0_startsGroup_45
  · skip
    have hq1 := hpk i (by omega)
    have hq2 := hpk (i - 1) (by omega)
    refine lv_aload_n E.1 E.2.1 dX0_startsGroup_4 rfl (lv_at hl 0 rfl) ?_
    refine n_get E inX hK hP 0 rfl rfl 0 (by decide) flX_9 rfl rfl dX0_startsGroup_5 ?_
    refine lv_aload_n E.1 E.2.1 dX0_startsGroup_8 rfl (lv_at hl 0 rfl) ?_
    refine n_get E inX hK hP 0 rfl rfl 10 (by decide) flX_42 rfl rfl dX0_startsGroup_9 ?_
    refine lv_iload_n E.1 E.2.1 dX0_startsGroup_12 rfl (lv_at hl 1 rfl) ?_
    refine n_iald E hK hP 9 8 rfl rfl (by decide) (by omega) dX0_startsGroup_13 ?_
    refine lv_iload_n E.1 E.2.1 dX0_startsGroup_14 rfl (lv_at hl 2 rfl) ?_
    refine cS_i E (As := [.int (nI (pk i)), .int (nI c)]) (rest := [.ref (ad 1)]) (cX_spot l (pk i) c) kX_52 rfl rfl ⟨Nat.le_of_ble_eq_true rfl, Nat.le_of_ble_eq_true rfl⟩ rfl hl.1 rfl (Nat.le_of_ble_eq_true rfl) dX0_startsGroup_15 ⟨Nat.zero_le _, Nat.zero_le _⟩ ?_
    refine n_cald E hK hP 1 0 rfl rfl (pk i) c (by omega) (by omega) (by omega) dX0_startsGroup_18 ?_
    refine lv_aload_n E.1 E.2.1 dX0_startsGroup_19 rfl (lv_at hl 0 rfl) ?_
    refine n_get E inX hK hP 0 rfl rfl 0 (by decide) flX_9 rfl rfl dX0_startsGroup_20 ?_
    refine lv_aload_n E.1 E.2.1 dX0_startsGroup_23 rfl (lv_at hl 0 rfl) ?_
    refine n_get E inX hK hP 0 rfl rfl 10 (by decide) flX_42 rfl rfl dX0_startsGroup_24 ?_
    refine lv_iload_n E.1 E.2.1 dX0_startsGroup_27 rfl (lv_at hl 1 rfl) ?_
    refine lv_iconst (v := nI 1) E.1 E.2.1 dX0_startsGroup_28 rfl ?_
    refine n_isub E (by omega) dX0_startsGroup_29 ?_
    refine n_iald E hK hP 9 8 rfl rfl (by decide) (by omega) dX0_startsGroup_30 ?_
    refine lv_iload_n E.1 E.2.1 dX0_startsGroup_31 rfl (lv_at hl 2 rfl) ?_
    refine cS_i E (As := [.int (nI (pk (i - 1))), .int (nI c)]) (rest := [.ref (ad 1), .long (T (pk i) c)]) (cX_spot l (pk (i - 1)) c) kX_52 rfl rfl ⟨Nat.le_of_ble_eq_true rfl, Nat.le_of_ble_eq_true rfl⟩ rfl hl.1 rfl (Nat.le_of_ble_eq_true rfl) dX0_startsGroup_32 ⟨Nat.zero_le _, Nat.zero_le _⟩ ?_
    refine n_cald E hK hP 1 0 rfl rfl (pk (i - 1)) c (by omega) (by omega) (by omega) dX0_startsGroup_35 ?_
    refine l_if_eq (tgt := 44) E dX0_startsGroup_36 dX0_startsGroup_37 rfl (fun h36 => ?_) (fun h36 => ?_)
    · skip
      refine lv_iconst (v := nI 0) E.1 E.2.1 dX0_startsGroup_44 rfl ?_
      exact e_z E hr hlk (show _ = _ from congrArg bI (show false = _ from by simp [sg, h1, h36])) dX0_startsGroup_45
    · skip
      refine lv_iconst (v := nI 1) E.1 E.2.1 dX0_startsGroup_40 rfl ?_
      refine lv_goto (tgt := 45) E.1 E.2.1 dX0_startsGroup_41 rfl ?_
      exact e_z E hr hlk (show _ = _ from congrArg bI (show true = _ from by simp [sg, h1, h36])) dX0_startsGroup_45
set_option maxHeartbeats 4000000 in
set_option maxRecDepth 100000 in
theorem cX_groupStart (l : Launch) (D : va_G) (ad : Nat → Nat) (ca : Nat → ClassId) (T : Nat → Nat → Int64) (n : Nat) (kc ko : Nat → Nat) (kv : Nat → Int64) (k : Nat) (lo hi : Nat → Int64) (bw bb pk : Nat → Nat) (x : Int32) (c m0 : Nat) (hc : c < 4) (hm128 : m0 ≤ 128) (hpk : ∀ j, j < m0 → pk j < 128) : Met l yX0_groupStart (wA yX0_groupStart cX0_groupStart 6 (some .int)) (rN 2) (va_Pc [.ref (ad 0), .int x, .int (nI c), .int (nI m0)] (pW D c2 (tX ca) (wX ad ca T n kc ko kv k lo hi bw bb pk))) (vp_Si (fun z => z = gsF (sg T c pk) x 0 m0)) 0 0 (fun _ => False) := by
  refine met_of RX0 rfl (by decide) (Nat.le_of_ble_eq_true rfl) (fun p e s m below meth cd ls E hr hlk _ hB hl => ?_)
  obtain ⟨hP, hK⟩ := hB
  have hl : lv_has ls 6 [(0, .ref (ad 0)), (1, .int x), (2, .int (nI c)), (3, .int (nI m0))] := hl
  refine lv_iconst (v := nI 0) E.1 E.2.1 dX0_groupStart_0 rfl ?_
  refine lv_istore (lv' := [(4, .int (nI 0)), (0, .ref (ad 0)), (1, .int x), (2, .int (nI c)), (3, .int (nI m0))]) E.1 E.2.1 dX0_groupStart_1 hl (by decide) rfl (fun ls hl => ?_)
  refine lv_iconst (v := nI 0) E.1 E.2.1 dX0_groupStart_3 rfl ?_
  refine lv_istore (lv' := [(5, .int (nI 0)), (4, .int (nI 0)), (0, .ref (ad 0)), (1, .int x), (2, .int (nI c)), (3, .int (nI m0))]) E.1 E.2.1 dX0_groupStart_4 hl (by decide) rfl (fun ls hl => ?_)
  refine w_lp1 (fun (i : Nat) => i ≤ m0 ∧ gsF (sg T c pk) x 0 m0 = gsF (sg T c pk) x i (m0 - i)) (fun (i : Nat) => m0 - i) (fun (i : Nat) => [(5, .int (nI i)), (4, .int (nI (ct (sg T c pk) i))), (0, .ref (ad 0)), (1, .int x), (2, .int (nI c)), (3, .int (nI m0))]) 0 (⟨Nat.zero_le _, rfl⟩) (lv_sub hl [0, 1, 2, 3, 4, 5] rfl) (fun i ls hI hl ih6 => ?_)
  have hl : lv_has ls 6 [(5, .int (nI i)), (4, .int (nI (ct (sg T c pk) i))), (0, .ref (ad 0)), (1, .int x), (2, .int (nI c)), (3, .int (nI m0))] := hl
  obtain ⟨hi0, hgs⟩ := hI
  refine lv_iload E.1 E.2.1 dX0_groupStart_6 (lv_at hl 0 rfl) ?_
  refine lv_iload_n E.1 E.2.1 dX0_groupStart_8 rfl (lv_at hl 5 rfl) ?_
  refine n_icmp_ge (tgt := 40) E dX0_groupStart_9 rfl (by omega) (by omega) (fun h9 => ?_) (fun h9 => ?_)
  · skip
    refine lv_iconst (v := -1) E.1 E.2.1 dX0_groupStart_40 rfl ?_
    exact e_i E hr hlk (by rw [hgs, show m0 - i = 0 by omega]; rfl) dX0_groupStart_41
  · skip
    refine lv_aload_n E.1 E.2.1 dX0_groupStart_12 rfl (lv_at hl 2 rfl) ?_
    refine lv_iload E.1 E.2.1 dX0_groupStart_13 (lv_at hl 0 rfl) ?_
    refine lv_iload_n E.1 E.2.1 dX0_groupStart_15 rfl (lv_at hl 4 rfl) ?_
    refine cV_i E (As := [.int (nI i), .int (nI c)]) (rest := []) (cX_startsGroup l D ad ca T n kc ko kv k lo hi bw bb pk i c m0  (by omega) (by omega) (by omega) hpk) kX_105 hK hP 0 rfl rfl rfl rfl ⟨Nat.le_of_ble_eq_true rfl, Nat.le_of_ble_eq_true rfl⟩ rfl hl.1 rfl (Nat.le_of_ble_eq_true rfl) dX0_groupStart_16 ⟨Nat.zero_le _, Nat.zero_le _⟩ ?_
    refine b_if_eq (tgt := 34) E dX0_groupStart_19 rfl (fun h19 => ?_) (fun h19 => ?_)
    · skip
      refine lv_iinc (k := 0) (v := nI (i + 1)) (lv' := [(5, .int (nI (i + 1))), (4, .int (nI (ct (sg T c pk) i))), (0, .ref (ad 0)), (1, .int x), (2, .int (nI c)), (3, .int (nI m0))]) E.1 E.2.1 dX0_groupStart_34 hl rfl (inc1 _) (by decide) rfl (fun ls hl => ?_)
      refine lv_goto (tgt := 6) E.1 E.2.1 dX0_groupStart_37 rfl ?_
      rw [← ct_f h19] at hl
      have hgs2 : gsF (sg T c pk) x 0 m0 = gsF (sg T c pk) x (i + 1) (m0 - (i + 1)) := by rw [hgs, show m0 - i = (m0 - (i + 1)) + 1 by omega, gsF, if_neg (by rw [h19, Bool.false_and]; decide)]
      exact ih6 (i + 1) _ (⟨by omega, hgs2⟩) (by omega) (lv_sub hl [0, 1, 2, 3, 4, 5] rfl)
    · skip
      refine lv_iload E.1 E.2.1 dX0_groupStart_22 (lv_at hl 1 rfl) ?_
      refine lv_iload_n E.1 E.2.1 dX0_groupStart_24 rfl (lv_at hl 3 rfl) ?_
      refine lv_icmp_ne (tgt := 31) E.1 E.2.1 dX0_groupStart_25 rfl (fun h25 => ?_) (fun h25 => ?_)
      · skip
        refine lv_iinc (k := 1) (v := nI (ct (sg T c pk) i + 1)) (lv' := [(4, .int (nI (ct (sg T c pk) i + 1))), (5, .int (nI i)), (0, .ref (ad 0)), (1, .int x), (2, .int (nI c)), (3, .int (nI m0))]) E.1 E.2.1 dX0_groupStart_31 hl rfl (inc1 _) (by decide) rfl (fun ls hl => ?_)
        refine lv_iinc (k := 1) (v := nI (i + 1)) (lv' := [(5, .int (nI (i + 1))), (4, .int (nI (ct (sg T c pk) i + 1))), (0, .ref (ad 0)), (1, .int x), (2, .int (nI c)), (3, .int (nI m0))]) E.1 E.2.1 dX0_groupStart_34 hl rfl (inc1 _) (by decide) rfl (fun ls hl => ?_)
        refine lv_goto (tgt := 6) E.1 E.2.1 dX0_groupStart_37 rfl ?_
        rw [← ct_t h19] at hl
        have hgs2 : gsF (sg T c pk) x 0 m0 = gsF (sg T c pk) x (i + 1) (m0 - (i + 1)) := by rw [hgs, show m0 - i = (m0 - (i + 1)) + 1 by omega, gsF, if_neg (by rw [decide_eq_false h25, Bool.and_false]; decide)]
        exact ih6 (i + 1) _ (⟨by omega, hgs2⟩) (by omega) (lv_sub hl [0, 1, 2, 3, 4, 5] rfl)
      · skip
        refine lv_iload E.1 E.2.1 dX0_groupStart_28 (lv_at hl 0 rfl) ?_
        exact e_i E hr hlk (by rw [hgs, show m0 - i = (m0 - (i + 1)) + 1 by omega, gsF, if_pos (by rw [h19, decide_eq_true h25]; rfl)]) dX0_groupStart_30
set_option maxHeartbeats 4000000 in
set_option maxRecDepth 100000 in
theorem cX_groupEnd (l : Launch) (D : va_G) (ad : Nat → Nat) (ca : Nat → ClassId) (T : Nat → Nat → Int64) (n : Nat) (kc ko : Nat → Nat) (kv : Nat → Int64) (k : Nat) (lo hi : Nat → Int64) (bw bb pk : Nat → Nat) (a c m0 : Nat) (hc : c < 4) (ha0 : a < m0) (hm128 : m0 ≤ 128) (hpk : ∀ j, j < m0 → pk j < 128) : Met l yX0_groupEnd (wA yX0_groupEnd cX0_groupEnd 5 (some .int)) (rN 2) (va_Pc [.ref (ad 0), .int (nI a), .int (nI c), .int (nI m0)] (pW D c2 (tX ca) (wX ad ca T n kc ko kv k lo hi bw bb pk))) (vp_Si (fun z => z = nI (gE (sg T c pk) (a + 1) (m0 - (a + 1))))) 0 0 (fun _ => False) := by
  refine met_of RX0 rfl (by decide) (Nat.le_of_ble_eq_true rfl) (fun p e s m below meth cd ls E hr hlk _ hB hl => ?_)
  obtain ⟨hP, hK⟩ := hB
  have hl : lv_has ls 5 [(0, .ref (ad 0)), (1, .int (nI a)), (2, .int (nI c)), (3, .int (nI m0))] := hl
  refine lv_iload_n E.1 E.2.1 dX0_groupEnd_0 rfl (lv_at hl 1 rfl) ?_
  refine lv_iconst (v := nI 1) E.1 E.2.1 dX0_groupEnd_1 rfl ?_
  refine n_iadd E dX0_groupEnd_2 ?_
  refine lv_istore (lv' := [(4, .int (nI (a + 1))), (0, .ref (ad 0)), (1, .int (nI a)), (2, .int (nI c)), (3, .int (nI m0))]) E.1 E.2.1 dX0_groupEnd_3 hl (by decide) rfl (fun ls hl => ?_)
  refine w_lp1 (fun (i : Nat) => a < i ∧ i ≤ m0 ∧ gE (sg T c pk) (a + 1) (m0 - (a + 1)) = gE (sg T c pk) i (m0 - i)) (fun (i : Nat) => m0 - i) (fun (i : Nat) => [(4, .int (nI i)), (0, .ref (ad 0)), (1, .int (nI a)), (2, .int (nI c)), (3, .int (nI m0))]) (a + 1) (⟨by omega, by omega, rfl⟩) (lv_sub hl [0, 1, 2, 3, 4] rfl) (fun i ls hI hl ih5 => ?_)
  have hl : lv_has ls 5 [(4, .int (nI i)), (0, .ref (ad 0)), (1, .int (nI a)), (2, .int (nI c)), (3, .int (nI m0))] := hl
  obtain ⟨hi1, hi0, hgs⟩ := hI
  refine lv_iload E.1 E.2.1 dX0_groupEnd_5 (lv_at hl 0 rfl) ?_
  refine lv_iload_n E.1 E.2.1 dX0_groupEnd_7 rfl (lv_at hl 4 rfl) ?_
  refine n_icmp_ge (tgt := 30) E dX0_groupEnd_8 rfl (by omega) (by omega) (fun h8 => ?_) (fun h8 => ?_)
  · skip
    refine lv_iload_n E.1 E.2.1 dX0_groupEnd_30 rfl (lv_at hl 4 rfl) ?_
    exact e_i E hr hlk (by rw [hgs, show m0 - i = 0 by omega, gE, show m0 = i by omega]) dX0_groupEnd_31
  · skip
    refine lv_aload_n E.1 E.2.1 dX0_groupEnd_11 rfl (lv_at hl 1 rfl) ?_
    refine lv_iload E.1 E.2.1 dX0_groupEnd_12 (lv_at hl 0 rfl) ?_
    refine lv_iload_n E.1 E.2.1 dX0_groupEnd_14 rfl (lv_at hl 3 rfl) ?_
    refine cV_i E (As := [.int (nI i), .int (nI c)]) (rest := []) (cX_startsGroup l D ad ca T n kc ko kv k lo hi bw bb pk i c m0  (by omega) (by omega) (by omega) hpk) kX_105 hK hP 0 rfl rfl rfl rfl ⟨Nat.le_of_ble_eq_true rfl, Nat.le_of_ble_eq_true rfl⟩ rfl hl.1 rfl (Nat.le_of_ble_eq_true rfl) dX0_groupEnd_15 ⟨Nat.zero_le _, Nat.zero_le _⟩ ?_
    refine b_if_eq (tgt := 24) E dX0_groupEnd_18 rfl (fun h18 => ?_) (fun h18 => ?_)
    · skip
      refine lv_iinc (k := 0) (v := nI (i + 1)) (lv' := [(4, .int (nI (i + 1))), (0, .ref (ad 0)), (1, .int (nI a)), (2, .int (nI c)), (3, .int (nI m0))]) E.1 E.2.1 dX0_groupEnd_24 hl rfl (inc1 _) (by decide) rfl (fun ls hl => ?_)
      refine lv_goto (tgt := 5) E.1 E.2.1 dX0_groupEnd_27 rfl ?_
      have hgs2 : gE (sg T c pk) (a + 1) (m0 - (a + 1)) = gE (sg T c pk) (i + 1) (m0 - (i + 1)) := by rw [hgs, show m0 - i = (m0 - (i + 1)) + 1 by omega, gE, if_neg (by rw [h18]; decide)]
      exact ih5 (i + 1) _ (⟨by omega, by omega, hgs2⟩) (by omega) (lv_sub hl [0, 1, 2, 3, 4] rfl)
    · skip
      refine lv_iload E.1 E.2.1 dX0_groupEnd_21 (lv_at hl 0 rfl) ?_
      exact e_i E hr hlk (by rw [hgs, show m0 - i = (m0 - (i + 1)) + 1 by omega, gE, if_pos h18]) dX0_groupEnd_23
end
section
/-! Contracts of the hall: laid by program (wip/whole/gen.py). -/
set_option maxHeartbeats 4000000 in
set_option maxRecDepth 100000 in
theorem cX_cell (l : Launch) (D : va_G) (ad : Nat → Nat) (ca : Nat → ClassId) (T : Nat → Nat → Int64) (n : Nat) (kc ko : Nat → Nat) (kv : Nat → Int64) (k : Nat) (lo hi : Nat → Int64) (bw bb pk : Nat → Nat) (r c : Nat) (hn128 : n ≤ 128) (hr0 : r < n) (hc : c < 4) : Met l yX0_cell (wA yX0_cell cX0_cell 3 (some .long)) (rN 1) (va_Pc [.ref (ad 0), .int (nI r), .int (nI c)] (pW D c2 (tX ca) (wX ad ca T n kc ko kv k lo hi bw bb pk))) (vp_Sl (fun z => z = T r c)) 0 0 (fun _ => False) := by
  refine met_of RX0 rfl (by decide) (Nat.le_of_ble_eq_true rfl) (fun p e s m below meth cd ls E hr hlk _ hB hl => ?_)
  obtain ⟨hP, hK⟩ := hB
  have hl : lv_has ls 3 [(0, .ref (ad 0)), (1, .int (nI r)), (2, .int (nI c))] := hl
  refine lv_iload_n E.1 E.2.1 dX0_cell_0 rfl (lv_at hl 2 rfl) ?_
  refine cS_v E (As := [.int (nI c)]) (rest := []) (cX_refuseBadColumn l c (by omega)) kX_60 rfl rfl ⟨Nat.le_of_ble_eq_true rfl, Nat.le_of_ble_eq_true rfl⟩ rfl hl.1 rfl (Nat.le_of_ble_eq_true rfl) dX0_cell_1 ⟨Nat.zero_le _, Nat.zero_le _⟩ ?_
  refine lv_iload_n E.1 E.2.1 dX0_cell_4 rfl (lv_at hl 1 rfl) ?_
  refine n_if_lt (tgt := 16) E dX0_cell_5 rfl (by omega) ?_
  refine lv_iload_n E.1 E.2.1 dX0_cell_8 rfl (lv_at hl 1 rfl) ?_
  refine lv_aload_n E.1 E.2.1 dX0_cell_9 rfl (lv_at hl 0 rfl) ?_
  refine n_get E inX hK hP 0 rfl rfl 1 (by decide) flX_13 rfl rfl dX0_cell_10 ?_
  refine n_icmp_lt (tgt := 26) E dX0_cell_13 rfl (by omega) (by omega) (fun h13 => ?_) (fun h13 => ?_)
  · skip
    refine lv_aload_n E.1 E.2.1 dX0_cell_26 rfl (lv_at hl 0 rfl) ?_
    refine n_get E inX hK hP 0 rfl rfl 0 (by decide) flX_9 rfl rfl dX0_cell_27 ?_
    refine lv_iload_n E.1 E.2.1 dX0_cell_30 rfl (lv_at hl 1 rfl) ?_
    refine lv_iload_n E.1 E.2.1 dX0_cell_31 rfl (lv_at hl 2 rfl) ?_
    refine cS_i E (As := [.int (nI r), .int (nI c)]) (rest := [.ref (ad 1)]) (cX_spot l r c) kX_52 rfl rfl ⟨Nat.le_of_ble_eq_true rfl, Nat.le_of_ble_eq_true rfl⟩ rfl hl.1 rfl (Nat.le_of_ble_eq_true rfl) dX0_cell_32 ⟨Nat.zero_le _, Nat.zero_le _⟩ ?_
    refine n_cald E hK hP 1 0 rfl rfl r c (by omega) (by omega) (by omega) dX0_cell_35 ?_
    exact e_l E hr hlk rfl dX0_cell_36
  · skip
    exfalso; omega
set_option maxHeartbeats 4000000 in
set_option maxRecDepth 100000 in
theorem cX_where (l : Launch) (D : va_G) (ad : Nat → Nat) (ca : Nat → ClassId) (T : Nat → Nat → Int64) (n : Nat) (kc ko : Nat → Nat) (kv : Nat → Int64) (k : Nat) (lo hi : Nat → Int64) (bw bb pk : Nat → Nat) (c o : Nat) (v : Int64) (hN : inj ad 10) (hk : k < 3) (hc : c < 4) (ho : o < 6) : Met l yX0_where (wA yX0_where cX0_where 5 (some .int)) (rN 1) (va_Pc [.ref (ad 0), .int (nI c), .int (nI o), .long v] (pW D c2 (tX ca) (wX ad ca T n kc ko kv k lo hi bw bb pk))) (qI (fun z (_ : Unit) => z = nI (k + 1)) D c2 (fun _ => wX ad ca T n (fS kc k c) (fS ko k o) (fS kv k v) (k + 1) lo hi bw bb pk) (fA ad 10)) 0 0 (fA ad 10) := by
  refine met_of RX0 rfl (by decide) (Nat.le_of_ble_eq_true rfl) (fun p e s m below meth cd ls E hr hlk _ hB hl => ?_)
  obtain ⟨hP, hK⟩ := hB
  have hl : lv_has ls 5 [(0, .ref (ad 0)), (1, .int (nI c)), (2, .int (nI o)), (3, .long v)] := hl
  have hS : va_S (fA ad 10) s.heap s.heap [] := va_S.rf
  refine lv_iload_n E.1 E.2.1 dX0_where_0 rfl (lv_at hl 1 rfl) ?_
  refine cS_v E (As := [.int (nI c)]) (rest := []) (cX_refuseBadColumn l c (by omega)) kX_60 rfl rfl ⟨Nat.le_of_ble_eq_true rfl, Nat.le_of_ble_eq_true rfl⟩ rfl hl.1 rfl (Nat.le_of_ble_eq_true rfl) dX0_where_1 ⟨Nat.zero_le _, Nat.zero_le _⟩ ?_
  refine lv_iload_n E.1 E.2.1 dX0_where_4 rfl (lv_at hl 2 rfl) ?_
  refine n_if_lt (tgt := 13) E dX0_where_5 rfl (by omega) ?_
  refine lv_iload_n E.1 E.2.1 dX0_where_8 rfl (lv_at hl 2 rfl) ?_
  refine lv_iconst (v := nI 5) E.1 E.2.1 dX0_where_9 rfl ?_
  refine n_icmp_le (tgt := 23) E dX0_where_10 rfl (by omega) (by omega) (fun h10 => ?_) (fun h10 => ?_)
  · skip
    refine lv_aload_n E.1 E.2.1 dX0_where_23 rfl (lv_at hl 0 rfl) ?_
    refine n_get E inX hK hP 0 rfl rfl 5 (by decide) flX_27 rfl rfl dX0_where_24 ?_
    refine lv_iconst (v := nI 3) E.1 E.2.1 dX0_where_27 rfl ?_
    refine n_icmp_lt (tgt := 41) E dX0_where_28 rfl (by omega) (by omega) (fun h28 => ?_) (fun h28 => ?_)
    · skip
      refine lv_aload_n E.1 E.2.1 dX0_where_41 rfl (lv_at hl 0 rfl) ?_
      refine n_get E inX hK hP 0 rfl rfl 2 (by decide) flX_17 rfl rfl dX0_where_42 ?_
      refine lv_aload_n E.1 E.2.1 dX0_where_45 rfl (lv_at hl 0 rfl) ?_
      refine n_get E inX hK hP 0 rfl rfl 5 (by decide) flX_27 rfl rfl dX0_where_46 ?_
      refine lv_iload_n E.1 E.2.1 dX0_where_49 rfl (lv_at hl 1 rfl) ?_
      refine n_iast E hK hP (dW hN rfl) hS 2 1 rfl rfl (by decide) (by omega) dX0_where_50 (fun H locs hP hS => ?_)
      have hP : va_P D c2 (wX ad ca T n (fS kc k c) ko kv k lo hi bw bb pk) H := hP
      refine lv_aload_n E.1 E.2.1 dX0_where_51 rfl (lv_at hl 0 rfl) ?_
      refine n_get E inX hK hP 0 rfl rfl 3 (by decide) flX_21 rfl rfl dX0_where_52 ?_
      refine lv_aload_n E.1 E.2.1 dX0_where_55 rfl (lv_at hl 0 rfl) ?_
      refine n_get E inX hK hP 0 rfl rfl 5 (by decide) flX_27 rfl rfl dX0_where_56 ?_
      refine lv_iload_n E.1 E.2.1 dX0_where_59 rfl (lv_at hl 2 rfl) ?_
      refine n_iast E hK hP (dW hN rfl) hS 3 2 rfl rfl (by decide) (by omega) dX0_where_60 (fun H locs hP hS => ?_)
      have hP : va_P D c2 (wX ad ca T n (fS kc k c) (fS ko k o) kv k lo hi bw bb pk) H := hP
      refine lv_aload_n E.1 E.2.1 dX0_where_61 rfl (lv_at hl 0 rfl) ?_
      refine n_get E inX hK hP 0 rfl rfl 4 (by decide) flX_24 rfl rfl dX0_where_62 ?_
      refine lv_aload_n E.1 E.2.1 dX0_where_65 rfl (lv_at hl 0 rfl) ?_
      refine n_get E inX hK hP 0 rfl rfl 5 (by decide) flX_27 rfl rfl dX0_where_66 ?_
      refine lv_lload_n E.1 E.2.1 dX0_where_69 rfl (lv_at hl 3 rfl) ?_
      refine n_last E hK hP (dW hN rfl) hS 4 3 rfl rfl (by decide) (by omega) dX0_where_70 (fun H locs hP hS => ?_)
      have hP : va_P D c2 (wX ad ca T n (fS kc k c) (fS ko k o) (fS kv k v) k lo hi bw bb pk) H := hP
      refine lv_aload_n E.1 E.2.1 dX0_where_71 rfl (lv_at hl 0 rfl) ?_
      refine lv_dup E.1 E.2.1 dX0_where_72 rfl ?_
      refine n_get E inX hK hP 0 rfl rfl 5 (by decide) flX_27 rfl rfl dX0_where_73 ?_
      refine lv_iconst (v := nI 1) E.1 E.2.1 dX0_where_76 rfl ?_
      refine n_iadd E dX0_where_77 ?_
      refine n_put E inX tyX0 tyX0_ok nmX0 hK hP (dW hN rfl) hS 0 rfl rfl 5 (by decide) flX_27 rfl rfl (tyX0_ok 5 (by decide)) (Nat.le_of_ble_eq_true rfl) dX0_where_78 (fun H locs hP hS => ?_)
      have hP : va_P D c2 (wX ad ca T n (fS kc k c) (fS ko k o) (fS kv k v) (k + 1) lo hi bw bb pk) H := hP
      refine lv_aload_n E.1 E.2.1 dX0_where_81 rfl (lv_at hl 0 rfl) ?_
      refine n_get E inX hK hP 0 rfl rfl 5 (by decide) flX_27 rfl rfl dX0_where_82 ?_
      exact e_wi E hr hlk hS () rfl hP dX0_where_85
    · skip
      exfalso; omega
  · skip
    exfalso; omega
set_option maxHeartbeats 4000000 in
set_option maxRecDepth 100000 in
theorem cX_row (l : Launch) (D : va_G) (ad : Nat → Nat) (ca : Nat → ClassId) (T : Nat → Nat → Int64) (n : Nat) (kc ko : Nat → Nat) (kv : Nat → Int64) (k : Nat) (lo hi : Nat → Int64) (bw bb pk : Nat → Nat) (i : Nat) (hIK : iK kc ko k) (hN : inj ad 10) (hn128 : n ≤ 128) (hiB : iB T n lo hi) (hi0 : i < ct (ch T kc ko kv k) n) : Met l yX0_row (wA yX0_row cX0_row 3 (some .int)) (rN 4) (va_Pc [.ref (ad 0), .int (nI i)] (pW D c2 (tX ca) (wX ad ca T n kc ko kv k lo hi bw bb pk))) (qI (fun z (q : Nat → Nat) => z = nI (q i) ∧ En q (ch T kc ko kv k) n) D c2 (fun q => wX ad ca T n kc ko kv k lo hi bw bb q) (fA ad 10)) 0 0 (fA ad 10) := by
  refine met_of RX0 rfl (by decide) (Nat.le_of_ble_eq_true rfl) (fun p e s m below meth cd ls E hr hlk _ hB hl => ?_)
  obtain ⟨hP, hK⟩ := hB
  have hl : lv_has ls 3 [(0, .ref (ad 0)), (1, .int (nI i))] := hl
  have hS : va_S (fA ad 10) s.heap s.heap [] := va_S.rf
  refine lv_aload_n E.1 E.2.1 dX0_row_0 rfl (lv_at hl 0 rfl) ?_
  refine cV_wi E (As := []) (rest := []) (cX_pick l D ad ca T n kc ko kv k lo hi bw bb pk hIK hN hn128 hiB) kX_75 hK hP hS (fun _ h => h) 0 rfl rfl rfl rfl ⟨Nat.le_of_ble_eq_true rfl, Nat.le_of_ble_eq_true rfl⟩ rfl hl.1 rfl (Nat.le_of_ble_eq_true rfl) dX0_row_1 ⟨Nat.zero_le _, Nat.zero_le _⟩ (fun z1 u1 H locs hp1 hP _ _ hS => ?_)
  obtain ⟨hz1, hE1⟩ := hp1
  subst hz1
  have hP : va_P D c2 (wX ad ca T n kc ko kv k lo hi bw bb u1) H := hP
  have hct := ct_le (ch T kc ko kv k) n
  refine lv_istore_n (lv' := [(2, .int (nI (ct (ch T kc ko kv k) n))), (0, .ref (ad 0)), (1, .int (nI i))]) E.1 E.2.1 dX0_row_4 rfl hl (by decide) rfl (fun ls hl => ?_)
  refine lv_iload_n E.1 E.2.1 dX0_row_5 rfl (lv_at hl 2 rfl) ?_
  refine n_if_lt (tgt := 14) E dX0_row_6 rfl (by omega) ?_
  refine lv_iload_n E.1 E.2.1 dX0_row_9 rfl (lv_at hl 2 rfl) ?_
  refine lv_iload_n E.1 E.2.1 dX0_row_10 rfl (lv_at hl 0 rfl) ?_
  refine n_icmp_lt (tgt := 24) E dX0_row_11 rfl (by omega) (by omega) (fun h11 => ?_) (fun h11 => ?_)
  · skip
    refine lv_aload_n E.1 E.2.1 dX0_row_24 rfl (lv_at hl 1 rfl) ?_
    refine n_get E inX hK hP 0 rfl rfl 10 (by decide) flX_42 rfl rfl dX0_row_25 ?_
    refine lv_iload_n E.1 E.2.1 dX0_row_28 rfl (lv_at hl 2 rfl) ?_
    refine n_iald E hK hP 9 8 rfl rfl (by decide) (by omega) dX0_row_29 ?_
    exact e_wi E hr hlk hS u1 (⟨rfl, hE1⟩) hP dX0_row_30
  · skip
    exfalso; omega
set_option maxHeartbeats 4000000 in
set_option maxRecDepth 100000 in
theorem cX_sum (l : Launch) (D : va_G) (ad : Nat → Nat) (ca : Nat → ClassId) (T : Nat → Nat → Int64) (n : Nat) (kc ko : Nat → Nat) (kv : Nat → Int64) (k : Nat) (lo hi : Nat → Int64) (bw bb pk : Nat → Nat) (c : Nat) (hIK : iK kc ko k) (hN : inj ad 10) (hn128 : n ≤ 128) (hiB : iB T n lo hi) (hc : c < 4) : Met l yX0_sum (wA yX0_sum cX0_sum 3 (some .long)) (rN 4) (va_Pc [.ref (ad 0), .int (nI c)] (pW D c2 (tX ca) (wX ad ca T n kc ko kv k lo hi bw bb pk))) (qL (fun z (q : Nat → Nat) => z = sm (fun j => T (q j) c) (ct (ch T kc ko kv k) n) ∧ En q (ch T kc ko kv k) n) D c2 (fun q => wX ad ca T n kc ko kv k lo hi bw bb q) (fA ad 10)) 0 0 (fA ad 10) := by
  refine met_of RX0 rfl (by decide) (Nat.le_of_ble_eq_true rfl) (fun p e s m below meth cd ls E hr hlk _ hB hl => ?_)
  obtain ⟨hP, hK⟩ := hB
  have hl : lv_has ls 3 [(0, .ref (ad 0)), (1, .int (nI c))] := hl
  have hS : va_S (fA ad 10) s.heap s.heap [] := va_S.rf
  refine lv_iload_n E.1 E.2.1 dX0_sum_0 rfl (lv_at hl 1 rfl) ?_
  refine cS_v E (As := [.int (nI c)]) (rest := []) (cX_refuseBadColumn l c (by omega)) kX_60 rfl rfl ⟨Nat.le_of_ble_eq_true rfl, Nat.le_of_ble_eq_true rfl⟩ rfl hl.1 rfl (Nat.le_of_ble_eq_true rfl) dX0_sum_1 ⟨Nat.zero_le _, Nat.zero_le _⟩ ?_
  refine lv_aload_n E.1 E.2.1 dX0_sum_4 rfl (lv_at hl 0 rfl) ?_
  refine cV_wi E (As := []) (rest := []) (cX_pick l D ad ca T n kc ko kv k lo hi bw bb pk hIK hN hn128 hiB) kX_75 hK hP hS (fun _ h => h) 0 rfl rfl rfl rfl ⟨Nat.le_of_ble_eq_true rfl, Nat.le_of_ble_eq_true rfl⟩ rfl hl.1 rfl (Nat.le_of_ble_eq_true rfl) dX0_sum_5 ⟨Nat.zero_le _, Nat.zero_le _⟩ (fun z5 u5 H locs hp5 hP _ _ hS => ?_)
  obtain ⟨hz5, hE5⟩ := hp5
  subst hz5
  have hP : va_P D c2 (wX ad ca T n kc ko kv k lo hi bw bb u5) H := hP
  have hct := ct_le (ch T kc ko kv k) n
  have hpk5 : ∀ j, j < ct (ch T kc ko kv k) n → u5 j < 128 := fun j hj => Nat.lt_of_lt_of_le (en_inv hE5 j hj).1 hn128
  refine lv_istore_n (lv' := [(2, .int (nI (ct (ch T kc ko kv k) n))), (0, .ref (ad 0)), (1, .int (nI c))]) E.1 E.2.1 dX0_sum_8 rfl hl (by decide) rfl (fun ls hl => ?_)
  refine lv_aload_n E.1 E.2.1 dX0_sum_9 rfl (lv_at hl 1 rfl) ?_
  refine lv_iload_n E.1 E.2.1 dX0_sum_10 rfl (lv_at hl 2 rfl) ?_
  refine lv_iconst (v := nI 0) E.1 E.2.1 dX0_sum_11 rfl ?_
  refine lv_iload_n E.1 E.2.1 dX0_sum_12 rfl (lv_at hl 0 rfl) ?_
  refine cV_l E (As := [.int (nI c), .int (nI 0), .int (nI (ct (ch T kc ko kv k) n))]) (rest := []) (cX_sumOfPicked l D ad ca T n kc ko kv k lo hi bw bb u5 c 0 (ct (ch T kc ko kv k) n) (by omega) (by omega) (by omega) hpk5) kX_88 hK hP 0 rfl rfl rfl rfl ⟨Nat.le_of_ble_eq_true rfl, Nat.le_of_ble_eq_true rfl⟩ rfl hl.1 rfl (Nat.le_of_ble_eq_true rfl) dX0_sum_13 ⟨Nat.zero_le _, Nat.zero_le _⟩ ?_
  exact e_wl E hr hlk hS u5 (⟨by simp only [Nat.zero_add, Nat.sub_zero], hE5⟩) hP dX0_sum_16
set_option maxHeartbeats 4000000 in
set_option maxRecDepth 100000 in
theorem cX_bound (l : Launch) (D : va_G) (ad : Nat → Nat) (ca : Nat → ClassId) (T : Nat → Nat → Int64) (n : Nat) (kc ko : Nat → Nat) (kv : Nat → Int64) (k : Nat) (lo hi : Nat → Int64) (bw bb pk : Nat → Nat) (c : Nat) (d : Bool) (hIK : iK kc ko k) (hN : inj ad 10) (hn128 : n ≤ 128) (hiB : iB T n lo hi) (hc : c < 4) (hpos : 0 < ct (ch T kc ko kv k) n) : Met l yX0_bound (wA yX0_bound cX0_bound 4 (some .long)) (rN 4) (va_Pc [.ref (ad 0), .int (nI c), .int (bI d)] (pW D c2 (tX ca) (wX ad ca T n kc ko kv k lo hi bw bb pk))) (qL (fun z (q : Nat → Nat) => z = bnd (fun j => T (q j) c) d (ct (ch T kc ko kv k) n - 1) ∧ En q (ch T kc ko kv k) n) D c2 (fun q => wX ad ca T n kc ko kv k lo hi bw bb q) (fA ad 10)) 0 0 (fA ad 10) := by
  refine met_of RX0 rfl (by decide) (Nat.le_of_ble_eq_true rfl) (fun p e s m below meth cd ls E hr hlk _ hB hl => ?_)
  obtain ⟨hP, hK⟩ := hB
  have hl : lv_has ls 4 [(0, .ref (ad 0)), (1, .int (nI c)), (2, .int (bI d))] := hl
  have hS : va_S (fA ad 10) s.heap s.heap [] := va_S.rf
  refine lv_iload_n E.1 E.2.1 dX0_bound_0 rfl (lv_at hl 1 rfl) ?_
  refine cS_v E (As := [.int (nI c)]) (rest := []) (cX_refuseBadColumn l c (by omega)) kX_60 rfl rfl ⟨Nat.le_of_ble_eq_true rfl, Nat.le_of_ble_eq_true rfl⟩ rfl hl.1 rfl (Nat.le_of_ble_eq_true rfl) dX0_bound_1 ⟨Nat.zero_le _, Nat.zero_le _⟩ ?_
  refine lv_aload_n E.1 E.2.1 dX0_bound_4 rfl (lv_at hl 0 rfl) ?_
  refine cV_wi E (As := []) (rest := []) (cX_pick l D ad ca T n kc ko kv k lo hi bw bb pk hIK hN hn128 hiB) kX_75 hK hP hS (fun _ h => h) 0 rfl rfl rfl rfl ⟨Nat.le_of_ble_eq_true rfl, Nat.le_of_ble_eq_true rfl⟩ rfl hl.1 rfl (Nat.le_of_ble_eq_true rfl) dX0_bound_5 ⟨Nat.zero_le _, Nat.zero_le _⟩ (fun z5 u5 H locs hp5 hP _ _ hS => ?_)
  obtain ⟨hz5, hE5⟩ := hp5
  subst hz5
  have hP : va_P D c2 (wX ad ca T n kc ko kv k lo hi bw bb u5) H := hP
  have hct := ct_le (ch T kc ko kv k) n
  have hpk5 : ∀ j, j < ct (ch T kc ko kv k) n → u5 j < 128 := fun j hj => Nat.lt_of_lt_of_le (en_inv hE5 j hj).1 hn128
  refine lv_istore_n (lv' := [(3, .int (nI (ct (ch T kc ko kv k) n))), (0, .ref (ad 0)), (1, .int (nI c)), (2, .int (bI d))]) E.1 E.2.1 dX0_bound_8 rfl hl (by decide) rfl (fun ls hl => ?_)
  refine lv_iload_n E.1 E.2.1 dX0_bound_9 rfl (lv_at hl 0 rfl) ?_
  refine n_if_ne (tgt := 23) E dX0_bound_10 rfl (by omega) (fun h10 => ?_) (fun h10 => ?_)
  · skip
    refine lv_aload_n E.1 E.2.1 dX0_bound_23 rfl (lv_at hl 1 rfl) ?_
    refine lv_iload_n E.1 E.2.1 dX0_bound_24 rfl (lv_at hl 2 rfl) ?_
    refine lv_iload_n E.1 E.2.1 dX0_bound_25 rfl (lv_at hl 3 rfl) ?_
    refine lv_iconst (v := nI 0) E.1 E.2.1 dX0_bound_26 rfl ?_
    refine lv_iload_n E.1 E.2.1 dX0_bound_27 rfl (lv_at hl 0 rfl) ?_
    refine cV_l E (As := [.int (nI c), .int (bI d), .int (nI 0), .int (nI (ct (ch T kc ko kv k) n))]) (rest := []) (cX_boundOfPicked l D ad ca T n kc ko kv k lo hi bw bb u5 c d 0 (ct (ch T kc ko kv k) n) (by omega) (by omega) (by omega) hpk5) kX_97 hK hP 0 rfl rfl rfl rfl ⟨Nat.le_of_ble_eq_true rfl, Nat.le_of_ble_eq_true rfl⟩ rfl hl.1 rfl (Nat.le_of_ble_eq_true rfl) dX0_bound_28 ⟨Nat.zero_le _, Nat.zero_le _⟩ ?_
    exact e_wl E hr hlk hS u5 (⟨by simp only [Nat.zero_add, Nat.sub_zero], hE5⟩) hP dX0_bound_31
  · skip
    exfalso; omega
set_option maxHeartbeats 4000000 in
set_option maxRecDepth 100000 in
theorem cX_ranked (l : Launch) (D : va_G) (ad : Nat → Nat) (ca : Nat → ClassId) (T : Nat → Nat → Int64) (n : Nat) (kc ko : Nat → Nat) (kv : Nat → Int64) (k : Nat) (lo hi : Nat → Int64) (bw bb pk : Nat → Nat) (c i : Nat) (hIK : iK kc ko k) (hN : inj ad 10) (hn128 : n ≤ 128) (hiB : iB T n lo hi) (hc : c < 4) (hi0 : i < ct (ch T kc ko kv k) n) : Met l yX0_ranked (wA yX0_ranked cX0_ranked 4 (some .int)) (rN 4) (va_Pc [.ref (ad 0), .int (nI c), .int (nI i)] (pW D c2 (tX ca) (wX ad ca T n kc ko kv k lo hi bw bb pk))) (qI (fun z (q : Nat → Nat) => z = nI (q i) ∧ Sd T c true q (ct (ch T kc ko kv k) n) ∧ (∃ p, En p (ch T kc ko kv k) n ∧ Pm q p (ct (ch T kc ko kv k) n))) D c2 (fun q => wX ad ca T n kc ko kv k lo hi bw bb q) (fA ad 10)) 0 0 (fA ad 10) := by
  refine met_of RX0 rfl (by decide) (Nat.le_of_ble_eq_true rfl) (fun p e s m below meth cd ls E hr hlk _ hB hl => ?_)
  obtain ⟨hP, hK⟩ := hB
  have hl : lv_has ls 4 [(0, .ref (ad 0)), (1, .int (nI c)), (2, .int (nI i))] := hl
  have hS : va_S (fA ad 10) s.heap s.heap [] := va_S.rf
  refine lv_iload_n E.1 E.2.1 dX0_ranked_0 rfl (lv_at hl 1 rfl) ?_
  refine cS_v E (As := [.int (nI c)]) (rest := []) (cX_refuseBadColumn l c (by omega)) kX_60 rfl rfl ⟨Nat.le_of_ble_eq_true rfl, Nat.le_of_ble_eq_true rfl⟩ rfl hl.1 rfl (Nat.le_of_ble_eq_true rfl) dX0_ranked_1 ⟨Nat.zero_le _, Nat.zero_le _⟩ ?_
  refine lv_aload_n E.1 E.2.1 dX0_ranked_4 rfl (lv_at hl 0 rfl) ?_
  refine cV_wi E (As := []) (rest := []) (cX_pick l D ad ca T n kc ko kv k lo hi bw bb pk hIK hN hn128 hiB) kX_75 hK hP hS (fun _ h => h) 0 rfl rfl rfl rfl ⟨Nat.le_of_ble_eq_true rfl, Nat.le_of_ble_eq_true rfl⟩ rfl hl.1 rfl (Nat.le_of_ble_eq_true rfl) dX0_ranked_5 ⟨Nat.zero_le _, Nat.zero_le _⟩ (fun z5 u5 H locs hp5 hP _ _ hS => ?_)
  obtain ⟨hz5, hE5⟩ := hp5
  subst hz5
  have hP : va_P D c2 (wX ad ca T n kc ko kv k lo hi bw bb u5) H := hP
  have hct := ct_le (ch T kc ko kv k) n
  have hpk5 : ∀ j, j < ct (ch T kc ko kv k) n → u5 j < 128 := fun j hj => Nat.lt_of_lt_of_le (en_inv hE5 j hj).1 hn128
  refine lv_istore_n (lv' := [(3, .int (nI (ct (ch T kc ko kv k) n))), (0, .ref (ad 0)), (1, .int (nI c)), (2, .int (nI i))]) E.1 E.2.1 dX0_ranked_8 rfl hl (by decide) rfl (fun ls hl => ?_)
  refine lv_iload_n E.1 E.2.1 dX0_ranked_9 rfl (lv_at hl 3 rfl) ?_
  refine n_if_lt (tgt := 18) E dX0_ranked_10 rfl (by omega) ?_
  refine lv_iload_n E.1 E.2.1 dX0_ranked_13 rfl (lv_at hl 3 rfl) ?_
  refine lv_iload_n E.1 E.2.1 dX0_ranked_14 rfl (lv_at hl 0 rfl) ?_
  refine n_icmp_lt (tgt := 28) E dX0_ranked_15 rfl (by omega) (by omega) (fun h15 => ?_) (fun h15 => ?_)
  · skip
    refine lv_aload_n E.1 E.2.1 dX0_ranked_28 rfl (lv_at hl 1 rfl) ?_
    refine lv_iload_n E.1 E.2.1 dX0_ranked_29 rfl (lv_at hl 0 rfl) ?_
    refine lv_iload_n E.1 E.2.1 dX0_ranked_30 rfl (lv_at hl 2 rfl) ?_
    refine lv_iconst (v := nI 1) E.1 E.2.1 dX0_ranked_31 rfl ?_
    refine cV_wv E (As := [.int (nI (ct (ch T kc ko kv k) n)), .int (nI c), .int (bI true)]) (rest := []) (cX_sortPicked l D ad ca T n kc ko kv k lo hi bw bb u5 (ct (ch T kc ko kv k) n) c true hN (by omega) (by omega) (fun i j h1 h2 => en_up hE5 h1 h2) hpk5) kX_101 hK hP hS (fun _ h => h) 0 rfl rfl rfl rfl ⟨Nat.le_of_ble_eq_true rfl, Nat.le_of_ble_eq_true rfl⟩ rfl hl.1 rfl (Nat.le_of_ble_eq_true rfl) dX0_ranked_32 ⟨Nat.zero_le _, Nat.zero_le _⟩ (fun u32 H locs hp32 hP _ _ hS => ?_)
    obtain ⟨hSd32, hPm32⟩ := hp32
    have hP : va_P D c2 (wX ad ca T n kc ko kv k lo hi bw bb u32) H := hP
    refine lv_aload_n E.1 E.2.1 dX0_ranked_35 rfl (lv_at hl 1 rfl) ?_
    refine n_get E inX hK hP 0 rfl rfl 10 (by decide) flX_42 rfl rfl dX0_ranked_36 ?_
    refine lv_iload_n E.1 E.2.1 dX0_ranked_39 rfl (lv_at hl 3 rfl) ?_
    refine n_iald E hK hP 9 8 rfl rfl (by decide) (by omega) dX0_ranked_40 ?_
    exact e_wi E hr hlk hS u32 (⟨rfl, hSd32, u5, hE5, hPm32⟩) hP dX0_ranked_41
  · skip
    exfalso; omega
set_option maxHeartbeats 4000000 in
set_option maxRecDepth 100000 in
theorem cX_groups (l : Launch) (D : va_G) (ad : Nat → Nat) (ca : Nat → ClassId) (T : Nat → Nat → Int64) (n : Nat) (kc ko : Nat → Nat) (kv : Nat → Int64) (k : Nat) (lo hi : Nat → Int64) (bw bb pk : Nat → Nat) (c : Nat) (hIK : iK kc ko k) (hN : inj ad 10) (hn128 : n ≤ 128) (hiB : iB T n lo hi) (hc : c < 4) : Met l yX0_groups (wA yX0_groups cX0_groups 5 (some .int)) (rN 4) (va_Pc [.ref (ad 0), .int (nI c)] (pW D c2 (tX ca) (wX ad ca T n kc ko kv k lo hi bw bb pk))) (qI (fun z (q : Nat → Nat) => z = nI (ct (sg T c q) (ct (ch T kc ko kv k) n)) ∧ Gr (ch T kc ko kv k) T c n q) D c2 (fun q => wX ad ca T n kc ko kv k lo hi bw bb q) (fA ad 10)) 0 0 (fA ad 10) := by
  refine met_of RX0 rfl (by decide) (Nat.le_of_ble_eq_true rfl) (fun p e s m below meth cd ls E hr hlk _ hB hl => ?_)
  obtain ⟨hP, hK⟩ := hB
  have hl : lv_has ls 5 [(0, .ref (ad 0)), (1, .int (nI c))] := hl
  have hS : va_S (fA ad 10) s.heap s.heap [] := va_S.rf
  refine lv_iload_n E.1 E.2.1 dX0_groups_0 rfl (lv_at hl 1 rfl) ?_
  refine cS_v E (As := [.int (nI c)]) (rest := []) (cX_refuseBadColumn l c (by omega)) kX_60 rfl rfl ⟨Nat.le_of_ble_eq_true rfl, Nat.le_of_ble_eq_true rfl⟩ rfl hl.1 rfl (Nat.le_of_ble_eq_true rfl) dX0_groups_1 ⟨Nat.zero_le _, Nat.zero_le _⟩ ?_
  refine lv_aload_n E.1 E.2.1 dX0_groups_4 rfl (lv_at hl 0 rfl) ?_
  refine cV_wi E (As := []) (rest := []) (cX_pick l D ad ca T n kc ko kv k lo hi bw bb pk hIK hN hn128 hiB) kX_75 hK hP hS (fun _ h => h) 0 rfl rfl rfl rfl ⟨Nat.le_of_ble_eq_true rfl, Nat.le_of_ble_eq_true rfl⟩ rfl hl.1 rfl (Nat.le_of_ble_eq_true rfl) dX0_groups_5 ⟨Nat.zero_le _, Nat.zero_le _⟩ (fun z5 u5 H locs hp5 hP _ _ hS => ?_)
  obtain ⟨hz5, hE5⟩ := hp5
  subst hz5
  have hP : va_P D c2 (wX ad ca T n kc ko kv k lo hi bw bb u5) H := hP
  have hct := ct_le (ch T kc ko kv k) n
  have hpk5 : ∀ j, j < ct (ch T kc ko kv k) n → u5 j < 128 := fun j hj => Nat.lt_of_lt_of_le (en_inv hE5 j hj).1 hn128
  refine lv_istore_n (lv' := [(2, .int (nI (ct (ch T kc ko kv k) n))), (0, .ref (ad 0)), (1, .int (nI c))]) E.1 E.2.1 dX0_groups_8 rfl hl (by decide) rfl (fun ls hl => ?_)
  refine lv_aload_n E.1 E.2.1 dX0_groups_9 rfl (lv_at hl 1 rfl) ?_
  refine lv_iload_n E.1 E.2.1 dX0_groups_10 rfl (lv_at hl 0 rfl) ?_
  refine lv_iload_n E.1 E.2.1 dX0_groups_11 rfl (lv_at hl 2 rfl) ?_
  refine lv_iconst (v := nI 0) E.1 E.2.1 dX0_groups_12 rfl ?_
  refine cV_wv E (As := [.int (nI (ct (ch T kc ko kv k) n)), .int (nI c), .int (bI false)]) (rest := []) (cX_sortPicked l D ad ca T n kc ko kv k lo hi bw bb u5 (ct (ch T kc ko kv k) n) c false hN (by omega) (by omega) (fun i j h1 h2 => en_up hE5 h1 h2) hpk5) kX_101 hK hP hS (fun _ h => h) 0 rfl rfl rfl rfl ⟨Nat.le_of_ble_eq_true rfl, Nat.le_of_ble_eq_true rfl⟩ rfl hl.1 rfl (Nat.le_of_ble_eq_true rfl) dX0_groups_13 ⟨Nat.zero_le _, Nat.zero_le _⟩ (fun u13 H locs hp13 hP _ _ hS => ?_)
  obtain ⟨hSd13, hPm13⟩ := hp13
  have hP : va_P D c2 (wX ad ca T n kc ko kv k lo hi bw bb u13) H := hP
  have hpk13 := pm_lt hPm13 hpk5
  refine lv_iconst (v := nI 0) E.1 E.2.1 dX0_groups_16 rfl ?_
  refine lv_istore_n (lv' := [(3, .int (nI 0)), (2, .int (nI (ct (ch T kc ko kv k) n))), (0, .ref (ad 0)), (1, .int (nI c))]) E.1 E.2.1 dX0_groups_17 rfl hl (by decide) rfl (fun ls hl => ?_)
  refine lv_iconst (v := nI 0) E.1 E.2.1 dX0_groups_18 rfl ?_
  refine lv_istore (lv' := [(4, .int (nI 0)), (3, .int (nI 0)), (2, .int (nI (ct (ch T kc ko kv k) n))), (0, .ref (ad 0)), (1, .int (nI c))]) E.1 E.2.1 dX0_groups_19 hl (by decide) rfl (fun ls hl => ?_)
  refine w_lp1 (fun (i : Nat) => i ≤ ct (ch T kc ko kv k) n) (fun (i : Nat) => ct (ch T kc ko kv k) n - i) (fun (i : Nat) => [(4, .int (nI i)), (3, .int (nI (ct (sg T c u13) i))), (0, .ref (ad 0)), (1, .int (nI c)), (2, .int (nI (ct (ch T kc ko kv k) n)))]) 0 (Nat.zero_le _) (lv_sub hl [0, 1, 3, 4, 2] rfl) (fun i ls hI hl ih21 => ?_)
  have hl : lv_has ls 5 [(4, .int (nI i)), (3, .int (nI (ct (sg T c u13) i))), (0, .ref (ad 0)), (1, .int (nI c)), (2, .int (nI (ct (ch T kc ko kv k) n)))] := hl
  refine lv_iload E.1 E.2.1 dX0_groups_21 (lv_at hl 0 rfl) ?_
  refine lv_iload_n E.1 E.2.1 dX0_groups_23 rfl (lv_at hl 4 rfl) ?_
  refine n_icmp_ge (tgt := 46) E dX0_groups_24 rfl (by omega) (by omega) (fun h24 => ?_) (fun h24 => ?_)
  · skip
    refine lv_iload_n E.1 E.2.1 dX0_groups_46 rfl (lv_at hl 1 rfl) ?_
    exact e_wi E hr hlk hS u13 (⟨by rw [show ct (ch T kc ko kv k) n = i by omega], ⟨u5, hE5, hPm13⟩, hSd13⟩) hP dX0_groups_47
  · skip
    refine lv_aload_n E.1 E.2.1 dX0_groups_27 rfl (lv_at hl 2 rfl) ?_
    refine lv_iload E.1 E.2.1 dX0_groups_28 (lv_at hl 0 rfl) ?_
    refine lv_iload_n E.1 E.2.1 dX0_groups_30 rfl (lv_at hl 3 rfl) ?_
    refine cV_i E (As := [.int (nI i), .int (nI c)]) (rest := []) (cX_startsGroup l D ad ca T n kc ko kv k lo hi bw bb u13 i c (ct (ch T kc ko kv k) n)  (by omega) (by omega) (by omega) hpk13) kX_105 hK hP 0 rfl rfl rfl rfl ⟨Nat.le_of_ble_eq_true rfl, Nat.le_of_ble_eq_true rfl⟩ rfl hl.1 rfl (Nat.le_of_ble_eq_true rfl) dX0_groups_31 ⟨Nat.zero_le _, Nat.zero_le _⟩ ?_
    refine b_if_eq (tgt := 40) E dX0_groups_34 rfl (fun h34 => ?_) (fun h34 => ?_)
    · skip
      refine lv_iinc (k := 0) (v := nI (i + 1)) (lv' := [(4, .int (nI (i + 1))), (3, .int (nI (ct (sg T c u13) i))), (0, .ref (ad 0)), (1, .int (nI c)), (2, .int (nI (ct (ch T kc ko kv k) n)))]) E.1 E.2.1 dX0_groups_40 hl rfl (inc1 _) (by decide) rfl (fun ls hl => ?_)
      refine lv_goto (tgt := 21) E.1 E.2.1 dX0_groups_43 rfl ?_
      rw [← ct_f h34] at hl
      exact ih21 (i + 1) _ (by omega) (by omega) (lv_sub hl [0, 1, 2, 3, 4] rfl)
    · skip
      refine lv_iinc (k := 1) (v := nI (ct (sg T c u13) i + 1)) (lv' := [(3, .int (nI (ct (sg T c u13) i + 1))), (4, .int (nI i)), (0, .ref (ad 0)), (1, .int (nI c)), (2, .int (nI (ct (ch T kc ko kv k) n)))]) E.1 E.2.1 dX0_groups_37 hl rfl (inc1 _) (by decide) rfl (fun ls hl => ?_)
      refine lv_iinc (k := 1) (v := nI (i + 1)) (lv' := [(4, .int (nI (i + 1))), (3, .int (nI (ct (sg T c u13) i + 1))), (0, .ref (ad 0)), (1, .int (nI c)), (2, .int (nI (ct (ch T kc ko kv k) n)))]) E.1 E.2.1 dX0_groups_40 hl rfl (inc1 _) (by decide) rfl (fun ls hl => ?_)
      refine lv_goto (tgt := 21) E.1 E.2.1 dX0_groups_43 rfl ?_
      rw [← ct_t h34] at hl
      exact ih21 (i + 1) _ (by omega) (by omega) (lv_sub hl [0, 1, 2, 3, 4] rfl)
set_option maxHeartbeats 4000000 in
set_option maxRecDepth 100000 in
theorem cX_group (l : Launch) (D : va_G) (ad : Nat → Nat) (ca : Nat → ClassId) (T : Nat → Nat → Int64) (n : Nat) (kc ko : Nat → Nat) (kv : Nat → Int64) (k : Nat) (lo hi : Nat → Int64) (bw bb pk : Nat → Nat) (c i w o : Nat) (hIK : iK kc ko k) (hN : inj ad 10) (hn128 : n ≤ 128) (hiB : iB T n lo hi) (hc : c < 4) (ho : o < 4) (hw : w < 5) (hi0 : i < ct (isF (ch T kc ko kv k) T c) n) : Met l yX0_group (wA yX0_group cX0_group 8 (some .long)) (rN 4) (va_Pc [.ref (ad 0), .int (nI c), .int (nI i), .int (nI w), .int (nI o)] (pW D c2 (tX ca) (wX ad ca T n kc ko kv k lo hi bw bb pk))) (qL (fun z (q : Nat → Nat) => Gr (ch T kc ko kv k) T c n q ∧ ∃ a b, a < b ∧ b ≤ ct (ch T kc ko kv k) n ∧ sg T c q a = true ∧ ct (sg T c q) a = i ∧ (∀ j, a < j → j < b → sg T c q j = false) ∧ (b = ct (ch T kc ko kv k) n ∨ sg T c q b = true) ∧ z = (if w = 0 then T (q a) c else if w = 1 then lN (b - a) else if w = 2 then sm (fun j => T (q (a + j)) o) (b - a) else bnd (fun j => T (q (a + j)) o) (decide (w = 4)) (b - a - 1))) D c2 (fun q => wX ad ca T n kc ko kv k lo hi bw bb q) (fA ad 10)) 0 0 (fA ad 10) := by
  refine met_of RX0 rfl (by decide) (Nat.le_of_ble_eq_true rfl) (fun p e s m below meth cd ls E hr hlk _ hB hl => ?_)
  obtain ⟨hP, hK⟩ := hB
  have hl : lv_has ls 8 [(0, .ref (ad 0)), (1, .int (nI c)), (2, .int (nI i)), (3, .int (nI w)), (4, .int (nI o))] := hl
  have hS : va_S (fA ad 10) s.heap s.heap [] := va_S.rf
  refine lv_iload_n E.1 E.2.1 dX0_group_0 rfl (lv_at hl 1 rfl) ?_
  refine cS_v E (As := [.int (nI c)]) (rest := []) (cX_refuseBadColumn l c (by omega)) kX_60 rfl rfl ⟨Nat.le_of_ble_eq_true rfl, Nat.le_of_ble_eq_true rfl⟩ rfl hl.1 rfl (Nat.le_of_ble_eq_true rfl) dX0_group_1 ⟨Nat.zero_le _, Nat.zero_le _⟩ ?_
  refine lv_iload E.1 E.2.1 dX0_group_4 (lv_at hl 4 rfl) ?_
  refine cS_v E (As := [.int (nI o)]) (rest := []) (cX_refuseBadColumn l o (by omega)) kX_60 rfl rfl ⟨Nat.le_of_ble_eq_true rfl, Nat.le_of_ble_eq_true rfl⟩ rfl hl.1 rfl (Nat.le_of_ble_eq_true rfl) dX0_group_6 ⟨Nat.zero_le _, Nat.zero_le _⟩ ?_
  refine lv_iload_n E.1 E.2.1 dX0_group_9 rfl (lv_at hl 3 rfl) ?_
  refine n_if_lt (tgt := 18) E dX0_group_10 rfl (by omega) ?_
  refine lv_iload_n E.1 E.2.1 dX0_group_13 rfl (lv_at hl 3 rfl) ?_
  refine lv_iconst (v := nI 4) E.1 E.2.1 dX0_group_14 rfl ?_
  refine n_icmp_le (tgt := 28) E dX0_group_15 rfl (by omega) (by omega) (fun h15 => ?_) (fun h15 => ?_)
  · skip
    refine lv_aload_n E.1 E.2.1 dX0_group_28 rfl (lv_at hl 0 rfl) ?_
    refine cV_wi E (As := []) (rest := []) (cX_pick l D ad ca T n kc ko kv k lo hi bw bb pk hIK hN hn128 hiB) kX_75 hK hP hS (fun _ h => h) 0 rfl rfl rfl rfl ⟨Nat.le_of_ble_eq_true rfl, Nat.le_of_ble_eq_true rfl⟩ rfl hl.1 rfl (Nat.le_of_ble_eq_true rfl) dX0_group_29 ⟨Nat.zero_le _, Nat.zero_le _⟩ (fun z29 u29 H locs hp29 hP _ _ hS => ?_)
    obtain ⟨hz29, hE29⟩ := hp29
    subst hz29
    have hP : va_P D c2 (wX ad ca T n kc ko kv k lo hi bw bb u29) H := hP
    have hct := ct_le (ch T kc ko kv k) n
    have hpk29 : ∀ j, j < ct (ch T kc ko kv k) n → u29 j < 128 := fun j hj => Nat.lt_of_lt_of_le (en_inv hE29 j hj).1 hn128
    refine lv_istore (lv' := [(5, .int (nI (ct (ch T kc ko kv k) n))), (0, .ref (ad 0)), (1, .int (nI c)), (2, .int (nI i)), (3, .int (nI w)), (4, .int (nI o))]) E.1 E.2.1 dX0_group_32 hl (by decide) rfl (fun ls hl => ?_)
    refine lv_aload_n E.1 E.2.1 dX0_group_34 rfl (lv_at hl 1 rfl) ?_
    refine lv_iload E.1 E.2.1 dX0_group_35 (lv_at hl 0 rfl) ?_
    refine lv_iload_n E.1 E.2.1 dX0_group_37 rfl (lv_at hl 2 rfl) ?_
    refine lv_iconst (v := nI 0) E.1 E.2.1 dX0_group_38 rfl ?_
    refine cV_wv E (As := [.int (nI (ct (ch T kc ko kv k) n)), .int (nI c), .int (bI false)]) (rest := []) (cX_sortPicked l D ad ca T n kc ko kv k lo hi bw bb u29 (ct (ch T kc ko kv k) n) c false hN (by omega) (by omega) (fun i j h1 h2 => en_up hE29 h1 h2) hpk29) kX_101 hK hP hS (fun _ h => h) 0 rfl rfl rfl rfl ⟨Nat.le_of_ble_eq_true rfl, Nat.le_of_ble_eq_true rfl⟩ rfl hl.1 rfl (Nat.le_of_ble_eq_true rfl) dX0_group_39 ⟨Nat.zero_le _, Nat.zero_le _⟩ (fun u39 H locs hp39 hP _ _ hS => ?_)
    obtain ⟨hSd39, hPm39⟩ := hp39
    have hP : va_P D c2 (wX ad ca T n kc ko kv k lo hi bw bb u39) H := hP
    have hpk39 := pm_lt hPm39 hpk29
    have hGr : Gr (ch T kc ko kv k) T c n u39 := ⟨⟨u29, hE29, hPm39⟩, hSd39⟩
    obtain ⟨a, ha1, ha2, ha3⟩ := ct_at (show i < ct (sg T c u39) (ct (ch T kc ko kv k) n) by rw [hGr.count]; exact hi0)
    refine lv_aload_n E.1 E.2.1 dX0_group_42 rfl (lv_at hl 1 rfl) ?_
    refine lv_iload_n E.1 E.2.1 dX0_group_43 rfl (lv_at hl 3 rfl) ?_
    refine lv_iload_n E.1 E.2.1 dX0_group_44 rfl (lv_at hl 2 rfl) ?_
    refine lv_iload E.1 E.2.1 dX0_group_45 (lv_at hl 0 rfl) ?_
    refine cV_i E (As := [.int (nI i), .int (nI c), .int (nI (ct (ch T kc ko kv k) n))]) (rest := []) (cX_groupStart l D ad ca T n kc ko kv k lo hi bw bb u39 (nI i) c (ct (ch T kc ko kv k) n) (by omega) (by omega) hpk39) kX_111 hK hP 0 rfl rfl rfl rfl ⟨Nat.le_of_ble_eq_true rfl, Nat.le_of_ble_eq_true rfl⟩ rfl hl.1 rfl (Nat.le_of_ble_eq_true rfl) dX0_group_47 ⟨Nat.zero_le _, Nat.zero_le _⟩ ?_
    refine tpi (y := nI a) (gsF_some ha2 ha3 (by have := ct_le (sg T c u39) a; omega) _ 0 (Nat.zero_le _) (by omega)) ?_
    refine lv_istore (lv' := [(6, .int (nI a)), (5, .int (nI (ct (ch T kc ko kv k) n))), (0, .ref (ad 0)), (1, .int (nI c)), (2, .int (nI i)), (3, .int (nI w)), (4, .int (nI o))]) E.1 E.2.1 dX0_group_50 hl (by decide) rfl (fun ls hl => ?_)
    refine lv_iload E.1 E.2.1 dX0_group_52 (lv_at hl 0 rfl) ?_
    refine n_if_ge (tgt := 67) E dX0_group_54 rfl (by omega) ?_
    refine lv_aload_n E.1 E.2.1 dX0_group_67 rfl (lv_at hl 2 rfl) ?_
    refine lv_iload E.1 E.2.1 dX0_group_68 (lv_at hl 0 rfl) ?_
    refine lv_iload_n E.1 E.2.1 dX0_group_70 rfl (lv_at hl 3 rfl) ?_
    refine lv_iload E.1 E.2.1 dX0_group_71 (lv_at hl 1 rfl) ?_
    refine cV_i E (As := [.int (nI a), .int (nI c), .int (nI (ct (ch T kc ko kv k) n))]) (rest := []) (cX_groupEnd l D ad ca T n kc ko kv k lo hi bw bb u39 a c (ct (ch T kc ko kv k) n) (by omega) (by omega) (by omega) hpk39) kX_117 hK hP 0 rfl rfl rfl rfl ⟨Nat.le_of_ble_eq_true rfl, Nat.le_of_ble_eq_true rfl⟩ rfl hl.1 rfl (Nat.le_of_ble_eq_true rfl) dX0_group_73 ⟨Nat.zero_le _, Nat.zero_le _⟩ ?_
    obtain ⟨hge1, hge2, hge3, hge4⟩ := gE_spec (p := sg T c u39) (ct (ch T kc ko kv k) n - (a + 1)) (a + 1)
    rw [show a + 1 + (ct (ch T kc ko kv k) n - (a + 1)) = ct (ch T kc ko kv k) n by omega] at hge2 hge4
    refine lv_istore (lv' := [(7, .int (nI (gE (sg T c u39) (a + 1) ((ct (ch T kc ko kv k) n) - (a + 1))))), (6, .int (nI a)), (5, .int (nI (ct (ch T kc ko kv k) n))), (0, .ref (ad 0)), (1, .int (nI c)), (2, .int (nI i)), (3, .int (nI w)), (4, .int (nI o))]) E.1 E.2.1 dX0_group_76 hl (by decide) rfl (fun ls hl => ?_)
    refine lv_iload_n E.1 E.2.1 dX0_group_78 rfl (lv_at hl 6 rfl) ?_
    rcases (show w = 0 ∨ w = 1 ∨ w = 2 ∨ w = 3 ∨ w = 4 by omega) with rfl | rfl | rfl | rfl | rfl
    · skip
      refine lv_tableIn (off := 29) (tgt := 108) E.1 E.2.1 dX0_group_79 (by decide) (by decide) (by decide) rfl ?_
      refine lv_aload_n E.1 E.2.1 dX0_group_108 rfl (lv_at hl 3 rfl) ?_
      refine n_get E inX hK hP 0 rfl rfl 0 (by decide) flX_9 rfl rfl dX0_group_109 ?_
      refine lv_aload_n E.1 E.2.1 dX0_group_112 rfl (lv_at hl 3 rfl) ?_
      refine n_get E inX hK hP 0 rfl rfl 10 (by decide) flX_42 rfl rfl dX0_group_113 ?_
      refine lv_iload E.1 E.2.1 dX0_group_116 (lv_at hl 1 rfl) ?_
      have hq := hpk39 a ha1
      refine n_iald E hK hP 9 8 rfl rfl (by decide) (by omega) dX0_group_118 ?_
      refine lv_iload_n E.1 E.2.1 dX0_group_119 rfl (lv_at hl 4 rfl) ?_
      refine cS_i E (As := [.int (nI (u39 a)), .int (nI c)]) (rest := [.ref (ad 1)]) (cX_spot l (u39 a) c) kX_52 rfl rfl ⟨Nat.le_of_ble_eq_true rfl, Nat.le_of_ble_eq_true rfl⟩ rfl hl.1 rfl (Nat.le_of_ble_eq_true rfl) dX0_group_120 ⟨Nat.zero_le _, Nat.zero_le _⟩ ?_
      refine n_cald E hK hP 1 0 rfl rfl (u39 a) c (by omega) (by omega) (by omega) dX0_group_123 ?_
      exact e_wl E hr hlk hS u39 (⟨hGr, a, gE (sg T c u39) (a + 1) (ct (ch T kc ko kv k) n - (a + 1)), by omega, by omega, ha2, ha3, fun j h1 h2 => hge3 j (by omega) h2, hge4, rfl⟩) hP dX0_group_124
    · skip
      refine lv_tableIn (off := 46) (tgt := 125) E.1 E.2.1 dX0_group_79 (by decide) (by decide) (by decide) rfl ?_
      refine lv_iload E.1 E.2.1 dX0_group_125 (lv_at hl 0 rfl) ?_
      refine lv_iload E.1 E.2.1 dX0_group_127 (lv_at hl 1 rfl) ?_
      refine n_isub E (by omega) dX0_group_129 ?_
      refine n_i2l E (by omega) dX0_group_130 ?_
      exact e_wl E hr hlk hS u39 (⟨hGr, a, gE (sg T c u39) (a + 1) (ct (ch T kc ko kv k) n - (a + 1)), by omega, by omega, ha2, ha3, fun j h1 h2 => hge3 j (by omega) h2, hge4, rfl⟩) hP dX0_group_131
    · skip
      refine lv_tableIn (off := 53) (tgt := 132) E.1 E.2.1 dX0_group_79 (by decide) (by decide) (by decide) rfl ?_
      refine lv_aload_n E.1 E.2.1 dX0_group_132 rfl (lv_at hl 3 rfl) ?_
      refine lv_iload E.1 E.2.1 dX0_group_133 (lv_at hl 7 rfl) ?_
      refine lv_iload E.1 E.2.1 dX0_group_135 (lv_at hl 1 rfl) ?_
      refine lv_iload E.1 E.2.1 dX0_group_137 (lv_at hl 0 rfl) ?_
      refine cV_l E (As := [.int (nI o), .int (nI a), .int (nI (gE (sg T c u39) (a + 1) ((ct (ch T kc ko kv k) n) - (a + 1))))]) (rest := []) (cX_sumOfPicked l D ad ca T n kc ko kv k lo hi bw bb u39 o a (gE (sg T c u39) (a + 1) ((ct (ch T kc ko kv k) n) - (a + 1))) (by omega) (by omega) (by omega) (fun j hj => hpk39 j (by omega))) kX_88 hK hP 0 rfl rfl rfl rfl ⟨Nat.le_of_ble_eq_true rfl, Nat.le_of_ble_eq_true rfl⟩ rfl hl.1 rfl (Nat.le_of_ble_eq_true rfl) dX0_group_139 ⟨Nat.zero_le _, Nat.zero_le _⟩ ?_
      exact e_wl E hr hlk hS u39 (⟨hGr, a, gE (sg T c u39) (a + 1) (ct (ch T kc ko kv k) n - (a + 1)), by omega, by omega, ha2, ha3, fun j h1 h2 => hge3 j (by omega) h2, hge4, rfl⟩) hP dX0_group_142
    · skip
      refine lv_tableIn (off := 64) (tgt := 143) E.1 E.2.1 dX0_group_79 (by decide) (by decide) (by decide) rfl ?_
      refine lv_aload_n E.1 E.2.1 dX0_group_143 rfl (lv_at hl 3 rfl) ?_
      refine lv_iload E.1 E.2.1 dX0_group_144 (lv_at hl 7 rfl) ?_
      refine lv_iconst (v := nI 0) E.1 E.2.1 dX0_group_146 rfl ?_
      refine lv_iload E.1 E.2.1 dX0_group_147 (lv_at hl 1 rfl) ?_
      refine lv_iload E.1 E.2.1 dX0_group_149 (lv_at hl 0 rfl) ?_
      refine cV_l E (As := [.int (nI o), .int (nI 0), .int (nI a), .int (nI (gE (sg T c u39) (a + 1) ((ct (ch T kc ko kv k) n) - (a + 1))))]) (rest := []) (cX_boundOfPicked l D ad ca T n kc ko kv k lo hi bw bb u39 o false a (gE (sg T c u39) (a + 1) ((ct (ch T kc ko kv k) n) - (a + 1))) (by omega) (by omega) (by omega) (fun j hj => hpk39 j (by omega))) kX_97 hK hP 0 rfl rfl rfl rfl ⟨Nat.le_of_ble_eq_true rfl, Nat.le_of_ble_eq_true rfl⟩ rfl hl.1 rfl (Nat.le_of_ble_eq_true rfl) dX0_group_151 ⟨Nat.zero_le _, Nat.zero_le _⟩ ?_
      exact e_wl E hr hlk hS u39 (⟨hGr, a, gE (sg T c u39) (a + 1) (ct (ch T kc ko kv k) n - (a + 1)), by omega, by omega, ha2, ha3, fun j h1 h2 => hge3 j (by omega) h2, hge4, rfl⟩) hP dX0_group_154
    · skip
      refine lv_tableOut (tgt := 155) E.1 E.2.1 dX0_group_79 (by decide) rfl ?_
      refine lv_aload_n E.1 E.2.1 dX0_group_155 rfl (lv_at hl 3 rfl) ?_
      refine lv_iload E.1 E.2.1 dX0_group_156 (lv_at hl 7 rfl) ?_
      refine lv_iconst (v := nI 1) E.1 E.2.1 dX0_group_158 rfl ?_
      refine lv_iload E.1 E.2.1 dX0_group_159 (lv_at hl 1 rfl) ?_
      refine lv_iload E.1 E.2.1 dX0_group_161 (lv_at hl 0 rfl) ?_
      refine cV_l E (As := [.int (nI o), .int (nI 1), .int (nI a), .int (nI (gE (sg T c u39) (a + 1) ((ct (ch T kc ko kv k) n) - (a + 1))))]) (rest := []) (cX_boundOfPicked l D ad ca T n kc ko kv k lo hi bw bb u39 o true a (gE (sg T c u39) (a + 1) ((ct (ch T kc ko kv k) n) - (a + 1))) (by omega) (by omega) (by omega) (fun j hj => hpk39 j (by omega))) kX_97 hK hP 0 rfl rfl rfl rfl ⟨Nat.le_of_ble_eq_true rfl, Nat.le_of_ble_eq_true rfl⟩ rfl hl.1 rfl (Nat.le_of_ble_eq_true rfl) dX0_group_163 ⟨Nat.zero_le _, Nat.zero_le _⟩ ?_
      exact e_wl E hr hlk hS u39 (⟨hGr, a, gE (sg T c u39) (a + 1) (ct (ch T kc ko kv k) n - (a + 1)), by omega, by omega, ha2, ha3, fun j h1 h2 => hge3 j (by omega) h2, hge4, rfl⟩) hP dX0_group_166
  · skip
    exfalso; omega
set_option maxHeartbeats 4000000 in
set_option maxRecDepth 100000 in
theorem cX_pairs (l : Launch) (D : va_G) (ad : Nat → Nat) (ca : Nat → ClassId) (T : Nat → Nat → Int64) (n : Nat) (kc ko : Nat → Nat) (kv : Nat → Int64) (k : Nat) (lo hi : Nat → Int64) (bw bb pk : Nat → Nat) (c o : Nat) (hIK : iK kc ko k) (hN : inj ad 10) (hn128 : n ≤ 128) (hiB : iB T n lo hi) (hc : c < 4) (ho : o < 4) : Met l yX0_pairs (wA yX0_pairs cX0_pairs 9 (some .int)) (rN 4) (va_Pc [.ref (ad 0), .int (nI c), .int (nI o)] (pW D c2 (tX ca) (wX ad ca T n kc ko kv k lo hi bw bb pk))) (qI (fun z (q : Nat → Nat) => z = nI (sn (fun t => ct (fun j => decide (T (q j) c = T (q t) o)) t) (ct (ch T kc ko kv k) n)) ∧ En q (ch T kc ko kv k) n) D c2 (fun q => wX ad ca T n kc ko kv k lo hi bw bb q) (fA ad 10)) 0 0 (fA ad 10) := by
  refine met_of RX0 rfl (by decide) (Nat.le_of_ble_eq_true rfl) (fun p e s m below meth cd ls E hr hlk _ hB hl => ?_)
  obtain ⟨hP, hK⟩ := hB
  have hl : lv_has ls 9 [(0, .ref (ad 0)), (1, .int (nI c)), (2, .int (nI o))] := hl
  have hS : va_S (fA ad 10) s.heap s.heap [] := va_S.rf
  refine lv_iload_n E.1 E.2.1 dX0_pairs_0 rfl (lv_at hl 1 rfl) ?_
  refine cS_v E (As := [.int (nI c)]) (rest := []) (cX_refuseBadColumn l c (by omega)) kX_60 rfl rfl ⟨Nat.le_of_ble_eq_true rfl, Nat.le_of_ble_eq_true rfl⟩ rfl hl.1 rfl (Nat.le_of_ble_eq_true rfl) dX0_pairs_1 ⟨Nat.zero_le _, Nat.zero_le _⟩ ?_
  refine lv_iload_n E.1 E.2.1 dX0_pairs_4 rfl (lv_at hl 2 rfl) ?_
  refine cS_v E (As := [.int (nI o)]) (rest := []) (cX_refuseBadColumn l o (by omega)) kX_60 rfl rfl ⟨Nat.le_of_ble_eq_true rfl, Nat.le_of_ble_eq_true rfl⟩ rfl hl.1 rfl (Nat.le_of_ble_eq_true rfl) dX0_pairs_5 ⟨Nat.zero_le _, Nat.zero_le _⟩ ?_
  refine lv_aload_n E.1 E.2.1 dX0_pairs_8 rfl (lv_at hl 0 rfl) ?_
  refine cV_wi E (As := []) (rest := []) (cX_pick l D ad ca T n kc ko kv k lo hi bw bb pk hIK hN hn128 hiB) kX_75 hK hP hS (fun _ h => h) 0 rfl rfl rfl rfl ⟨Nat.le_of_ble_eq_true rfl, Nat.le_of_ble_eq_true rfl⟩ rfl hl.1 rfl (Nat.le_of_ble_eq_true rfl) dX0_pairs_9 ⟨Nat.zero_le _, Nat.zero_le _⟩ (fun z9 u9 H locs hp9 hP _ _ hS => ?_)
  obtain ⟨hz9, hE9⟩ := hp9
  subst hz9
  have hP : va_P D c2 (wX ad ca T n kc ko kv k lo hi bw bb u9) H := hP
  have hct := ct_le (ch T kc ko kv k) n
  have hpk9 : ∀ j, j < ct (ch T kc ko kv k) n → u9 j < 128 := fun j hj => Nat.lt_of_lt_of_le (en_inv hE9 j hj).1 hn128
  refine lv_istore_n (lv' := [(3, .int (nI (ct (ch T kc ko kv k) n))), (0, .ref (ad 0)), (1, .int (nI c)), (2, .int (nI o))]) E.1 E.2.1 dX0_pairs_12 rfl hl (by decide) rfl (fun ls hl => ?_)
  refine lv_iconst (v := nI 0) E.1 E.2.1 dX0_pairs_13 rfl ?_
  refine lv_istore (lv' := [(4, .int (nI 0)), (3, .int (nI (ct (ch T kc ko kv k) n))), (0, .ref (ad 0)), (1, .int (nI c)), (2, .int (nI o))]) E.1 E.2.1 dX0_pairs_14 hl (by decide) rfl (fun ls hl => ?_)
  refine lv_iconst (v := nI 1) E.1 E.2.1 dX0_pairs_16 rfl ?_
  refine lv_istore (lv' := [(5, .int (nI 1)), (4, .int (nI 0)), (3, .int (nI (ct (ch T kc ko kv k) n))), (0, .ref (ad 0)), (1, .int (nI c)), (2, .int (nI o))]) E.1 E.2.1 dX0_pairs_17 hl (by decide) rfl (fun ls hl => ?_)
  refine w_lp1 (fun (t : Nat) => 1 ≤ t ∧ (t ≤ ct (ch T kc ko kv k) n ∨ t = 1)) (fun (t : Nat) => ct (ch T kc ko kv k) n - t) (fun (t : Nat) => [(5, .int (nI t)), (4, .int (nI (sn (fun t => ct (fun j => decide (T (u9 j) c = T (u9 t) o)) t) t))), (0, .ref (ad 0)), (1, .int (nI c)), (2, .int (nI o)), (3, .int (nI (ct (ch T kc ko kv k) n)))]) 1 (⟨Nat.le_refl _, Or.inr rfl⟩) (lv_sub hl [0, 1, 3, 4, 5, 2] rfl) (fun t ls hI hl ih19 => ?_)
  have hl : lv_has ls 9 [(5, .int (nI t)), (4, .int (nI (sn (fun t => ct (fun j => decide (T (u9 j) c = T (u9 t) o)) t) t))), (0, .ref (ad 0)), (1, .int (nI c)), (2, .int (nI o)), (3, .int (nI (ct (ch T kc ko kv k) n)))] := hl
  refine lv_iload E.1 E.2.1 dX0_pairs_19 (lv_at hl 0 rfl) ?_
  refine lv_iload_n E.1 E.2.1 dX0_pairs_21 rfl (lv_at hl 5 rfl) ?_
  refine n_icmp_ge (tgt := 90) E dX0_pairs_22 rfl (by omega) (by omega) (fun h22 => ?_) (fun h22 => ?_)
  · skip
    refine lv_iload E.1 E.2.1 dX0_pairs_90 (lv_at hl 1 rfl) ?_
    exact e_wi E hr hlk hS u9 (⟨sn_end (by omega), hE9⟩) hP dX0_pairs_92
  · skip
    refine lv_aload_n E.1 E.2.1 dX0_pairs_25 rfl (lv_at hl 2 rfl) ?_
    refine n_get E inX hK hP 0 rfl rfl 0 (by decide) flX_9 rfl rfl dX0_pairs_26 ?_
    refine lv_aload_n E.1 E.2.1 dX0_pairs_29 rfl (lv_at hl 2 rfl) ?_
    refine n_get E inX hK hP 0 rfl rfl 10 (by decide) flX_42 rfl rfl dX0_pairs_30 ?_
    refine lv_iload E.1 E.2.1 dX0_pairs_33 (lv_at hl 0 rfl) ?_
    have hq := hpk9 t (by omega)
    refine n_iald E hK hP 9 8 rfl rfl (by decide) (by omega) dX0_pairs_35 ?_
    refine lv_iload_n E.1 E.2.1 dX0_pairs_36 rfl (lv_at hl 4 rfl) ?_
    refine cS_i E (As := [.int (nI (u9 t)), .int (nI o)]) (rest := [.ref (ad 1)]) (cX_spot l (u9 t) o) kX_52 rfl rfl ⟨Nat.le_of_ble_eq_true rfl, Nat.le_of_ble_eq_true rfl⟩ rfl hl.1 rfl (Nat.le_of_ble_eq_true rfl) dX0_pairs_37 ⟨Nat.zero_le _, Nat.zero_le _⟩ ?_
    refine n_cald E hK hP 1 0 rfl rfl (u9 t) o (by omega) (by omega) (by omega) dX0_pairs_40 ?_
    refine lv_lstore (lv' := [(6, .long (T (u9 t) o)), (5, .int (nI t)), (4, .int (nI (sn (fun t => ct (fun j => decide (T (u9 j) c = T (u9 t) o)) t) t))), (0, .ref (ad 0)), (1, .int (nI c)), (2, .int (nI o)), (3, .int (nI (ct (ch T kc ko kv k) n)))]) E.1 E.2.1 dX0_pairs_41 hl (by decide) rfl (fun ls hl => ?_)
    refine lv_iconst (v := nI 0) E.1 E.2.1 dX0_pairs_43 rfl ?_
    refine lv_istore (lv' := [(8, .int (nI 0)), (6, .long (T (u9 t) o)), (5, .int (nI t)), (4, .int (nI (sn (fun t => ct (fun j => decide (T (u9 j) c = T (u9 t) o)) t) t))), (0, .ref (ad 0)), (1, .int (nI c)), (2, .int (nI o)), (3, .int (nI (ct (ch T kc ko kv k) n)))]) E.1 E.2.1 dX0_pairs_44 hl (by decide) rfl (fun ls hl => ?_)
    refine w_lp1 (fun (j : Nat) => j ≤ t) (fun (j : Nat) => t - j) (fun (j : Nat) => [(8, .int (nI j)), (4, .int (nI (sn (fun t => ct (fun j => decide (T (u9 j) c = T (u9 t) o)) t) t + ct (fun j => decide (T (u9 j) c = T (u9 t) o)) j))), (5, .int (nI t)), (6, .long (T (u9 t) o)), (0, .ref (ad 0)), (1, .int (nI c)), (2, .int (nI o)), (3, .int (nI (ct (ch T kc ko kv k) n)))]) 0 (Nat.zero_le _) (lv_sub hl [0, 3, 2, 1, 4, 5, 6, 7] rfl) (fun j ls hI hl ih46 => ?_)
    have hl : lv_has ls 9 [(8, .int (nI j)), (4, .int (nI (sn (fun t => ct (fun j => decide (T (u9 j) c = T (u9 t) o)) t) t + ct (fun j => decide (T (u9 j) c = T (u9 t) o)) j))), (5, .int (nI t)), (6, .long (T (u9 t) o)), (0, .ref (ad 0)), (1, .int (nI c)), (2, .int (nI o)), (3, .int (nI (ct (ch T kc ko kv k) n)))] := hl
    refine lv_iload E.1 E.2.1 dX0_pairs_46 (lv_at hl 0 rfl) ?_
    refine lv_iload E.1 E.2.1 dX0_pairs_48 (lv_at hl 2 rfl) ?_
    refine n_icmp_ge (tgt := 84) E dX0_pairs_50 rfl (by omega) (by omega) (fun h50 => ?_) (fun h50 => ?_)
    · skip
      refine lv_iinc (k := 2) (v := nI (t + 1)) (lv' := [(5, .int (nI (t + 1))), (8, .int (nI j)), (4, .int (nI (sn (fun t => ct (fun j => decide (T (u9 j) c = T (u9 t) o)) t) t + ct (fun j => decide (T (u9 j) c = T (u9 t) o)) j))), (6, .long (T (u9 t) o)), (0, .ref (ad 0)), (1, .int (nI c)), (2, .int (nI o)), (3, .int (nI (ct (ch T kc ko kv k) n)))]) E.1 E.2.1 dX0_pairs_84 hl rfl (inc1 _) (by decide) rfl (fun ls hl => ?_)
      refine lv_goto (tgt := 19) E.1 E.2.1 dX0_pairs_87 rfl ?_
      have e9 : t = j := by omega
      subst e9
      exact ih19 (t + 1) _ (⟨by omega, by omega⟩) (by omega) (lv_sub hl [0, 2, 4, 5, 6, 7] rfl)
    · skip
      refine lv_aload_n E.1 E.2.1 dX0_pairs_53 rfl (lv_at hl 4 rfl) ?_
      refine n_get E inX hK hP 0 rfl rfl 0 (by decide) flX_9 rfl rfl dX0_pairs_54 ?_
      refine lv_aload_n E.1 E.2.1 dX0_pairs_57 rfl (lv_at hl 4 rfl) ?_
      refine n_get E inX hK hP 0 rfl rfl 10 (by decide) flX_42 rfl rfl dX0_pairs_58 ?_
      refine lv_iload E.1 E.2.1 dX0_pairs_61 (lv_at hl 0 rfl) ?_
      have hq2 := hpk9 j (by omega)
      refine n_iald E hK hP 9 8 rfl rfl (by decide) (by omega) dX0_pairs_63 ?_
      refine lv_iload_n E.1 E.2.1 dX0_pairs_64 rfl (lv_at hl 5 rfl) ?_
      refine cS_i E (As := [.int (nI (u9 j)), .int (nI c)]) (rest := [.ref (ad 1)]) (cX_spot l (u9 j) c) kX_52 rfl rfl ⟨Nat.le_of_ble_eq_true rfl, Nat.le_of_ble_eq_true rfl⟩ rfl hl.1 rfl (Nat.le_of_ble_eq_true rfl) dX0_pairs_65 ⟨Nat.zero_le _, Nat.zero_le _⟩ ?_
      refine n_cald E hK hP 1 0 rfl rfl (u9 j) c (by omega) (by omega) (by omega) dX0_pairs_68 ?_
      refine lv_lload E.1 E.2.1 dX0_pairs_69 (lv_at hl 3 rfl) ?_
      refine l_if_ne (tgt := 78) E dX0_pairs_71 dX0_pairs_72 rfl (fun h71 => ?_) (fun h71 => ?_)
      · skip
        refine lv_iinc (k := 0) (v := nI (j + 1)) (lv' := [(8, .int (nI (j + 1))), (4, .int (nI (sn (fun t => ct (fun j => decide (T (u9 j) c = T (u9 t) o)) t) t + ct (fun j => decide (T (u9 j) c = T (u9 t) o)) j))), (5, .int (nI t)), (6, .long (T (u9 t) o)), (0, .ref (ad 0)), (1, .int (nI c)), (2, .int (nI o)), (3, .int (nI (ct (ch T kc ko kv k) n)))]) E.1 E.2.1 dX0_pairs_78 hl rfl (inc1 _) (by decide) rfl (fun ls hl => ?_)
        refine lv_goto (tgt := 46) E.1 E.2.1 dX0_pairs_81 rfl ?_
        rw [← ct_f (p := fun j => decide (T (u9 j) c = T (u9 t) o)) (decide_eq_false h71)] at hl
        exact ih46 (j + 1) _ (by omega) (by omega) (lv_sub hl [0, 1, 2, 3, 4, 5, 6, 7] rfl)
      · skip
        refine lv_iinc (k := 1) (v := nI (sn (fun t => ct (fun j => decide (T (u9 j) c = T (u9 t) o)) t) t + ct (fun j => decide (T (u9 j) c = T (u9 t) o)) j + 1)) (lv' := [(4, .int (nI (sn (fun t => ct (fun j => decide (T (u9 j) c = T (u9 t) o)) t) t + ct (fun j => decide (T (u9 j) c = T (u9 t) o)) j + 1))), (8, .int (nI j)), (5, .int (nI t)), (6, .long (T (u9 t) o)), (0, .ref (ad 0)), (1, .int (nI c)), (2, .int (nI o)), (3, .int (nI (ct (ch T kc ko kv k) n)))]) E.1 E.2.1 dX0_pairs_75 hl rfl (inc1 _) (by decide) rfl (fun ls hl => ?_)
        refine lv_iinc (k := 1) (v := nI (j + 1)) (lv' := [(8, .int (nI (j + 1))), (4, .int (nI (sn (fun t => ct (fun j => decide (T (u9 j) c = T (u9 t) o)) t) t + ct (fun j => decide (T (u9 j) c = T (u9 t) o)) j + 1))), (5, .int (nI t)), (6, .long (T (u9 t) o)), (0, .ref (ad 0)), (1, .int (nI c)), (2, .int (nI o)), (3, .int (nI (ct (ch T kc ko kv k) n)))]) E.1 E.2.1 dX0_pairs_78 hl rfl (inc1 _) (by decide) rfl (fun ls hl => ?_)
        refine lv_goto (tgt := 46) E.1 E.2.1 dX0_pairs_81 rfl ?_
        rw [Nat.add_assoc, ← ct_t (p := fun j => decide (T (u9 j) c = T (u9 t) o)) (decide_eq_true h71)] at hl
        exact ih46 (j + 1) _ (by omega) (by omega) (lv_sub hl [0, 1, 2, 3, 4, 5, 6, 7] rfl)
set_option maxHeartbeats 4000000 in
set_option maxRecDepth 100000 in
theorem cX_way (l : Launch) (D : va_G) (ad : Nat → Nat) (ca : Nat → ClassId) (T : Nat → Nat → Int64) (n : Nat) (kc ko : Nat → Nat) (kv : Nat → Int64) (k : Nat) (lo hi : Nat → Int64) (bw bb pk : Nat → Nat) (b c : Nat) (hn128 : n ≤ 128) (hb : b < n / 16) (hc : c < 4) : Met l yX0_way (wA yX0_way cX0_way 3 (some .int)) (rN 2) (va_Pc [.ref (ad 0), .int (nI b), .int (nI c)] (pW D c2 (tX ca) (wX ad ca T n kc ko kv k lo hi bw bb pk))) (vp_Si (fun z => z = nI (bw (b * 4 + c)))) 0 0 (fun _ => False) := by
  refine met_of RX0 rfl (by decide) (Nat.le_of_ble_eq_true rfl) (fun p e s m below meth cd ls E hr hlk _ hB hl => ?_)
  obtain ⟨hP, hK⟩ := hB
  have hl : lv_has ls 3 [(0, .ref (ad 0)), (1, .int (nI b)), (2, .int (nI c))] := hl
  refine lv_iload_n E.1 E.2.1 dX0_way_0 rfl (lv_at hl 2 rfl) ?_
  refine cS_v E (As := [.int (nI c)]) (rest := []) (cX_refuseBadColumn l c (by omega)) kX_60 rfl rfl ⟨Nat.le_of_ble_eq_true rfl, Nat.le_of_ble_eq_true rfl⟩ rfl hl.1 rfl (Nat.le_of_ble_eq_true rfl) dX0_way_1 ⟨Nat.zero_le _, Nat.zero_le _⟩ ?_
  refine lv_aload_n E.1 E.2.1 dX0_way_4 rfl (lv_at hl 0 rfl) ?_
  refine lv_iload_n E.1 E.2.1 dX0_way_5 rfl (lv_at hl 1 rfl) ?_
  refine cV_v E (As := [.int (nI b)]) (rest := []) (cX_refuseUnpackedBlock l D ad ca T n kc ko kv k lo hi bw bb pk b (by omega) (by omega)) kX_120 hK hP 0 rfl rfl rfl rfl ⟨Nat.le_of_ble_eq_true rfl, Nat.le_of_ble_eq_true rfl⟩ rfl hl.1 rfl (Nat.le_of_ble_eq_true rfl) dX0_way_6 ⟨Nat.zero_le _, Nat.zero_le _⟩ ?_
  refine lv_aload_n E.1 E.2.1 dX0_way_9 rfl (lv_at hl 0 rfl) ?_
  refine n_get E inX hK hP 0 rfl rfl 8 (by decide) flX_36 rfl rfl dX0_way_10 ?_
  refine lv_iload_n E.1 E.2.1 dX0_way_13 rfl (lv_at hl 1 rfl) ?_
  refine lv_iload_n E.1 E.2.1 dX0_way_14 rfl (lv_at hl 2 rfl) ?_
  refine cS_i E (As := [.int (nI b), .int (nI c)]) (rest := [.ref (ad 7)]) (cX_place l b c) kX_123 rfl rfl ⟨Nat.le_of_ble_eq_true rfl, Nat.le_of_ble_eq_true rfl⟩ rfl hl.1 rfl (Nat.le_of_ble_eq_true rfl) dX0_way_15 ⟨Nat.zero_le _, Nat.zero_le _⟩ ?_
  refine n_iald E hK hP 7 6 rfl rfl (by decide) (by omega) dX0_way_18 ?_
  exact e_i E hr hlk rfl dX0_way_19
set_option maxHeartbeats 4000000 in
set_option maxRecDepth 100000 in
theorem cX_bits (l : Launch) (D : va_G) (ad : Nat → Nat) (ca : Nat → ClassId) (T : Nat → Nat → Int64) (n : Nat) (kc ko : Nat → Nat) (kv : Nat → Int64) (k : Nat) (lo hi : Nat → Int64) (bw bb pk : Nat → Nat) (b c : Nat) (hn128 : n ≤ 128) (hb : b < n / 16) (hc : c < 4) : Met l yX0_bits (wA yX0_bits cX0_bits 3 (some .int)) (rN 2) (va_Pc [.ref (ad 0), .int (nI b), .int (nI c)] (pW D c2 (tX ca) (wX ad ca T n kc ko kv k lo hi bw bb pk))) (vp_Si (fun z => z = nI (bb (b * 4 + c)))) 0 0 (fun _ => False) := by
  refine met_of RX0 rfl (by decide) (Nat.le_of_ble_eq_true rfl) (fun p e s m below meth cd ls E hr hlk _ hB hl => ?_)
  obtain ⟨hP, hK⟩ := hB
  have hl : lv_has ls 3 [(0, .ref (ad 0)), (1, .int (nI b)), (2, .int (nI c))] := hl
  refine lv_iload_n E.1 E.2.1 dX0_bits_0 rfl (lv_at hl 2 rfl) ?_
  refine cS_v E (As := [.int (nI c)]) (rest := []) (cX_refuseBadColumn l c (by omega)) kX_60 rfl rfl ⟨Nat.le_of_ble_eq_true rfl, Nat.le_of_ble_eq_true rfl⟩ rfl hl.1 rfl (Nat.le_of_ble_eq_true rfl) dX0_bits_1 ⟨Nat.zero_le _, Nat.zero_le _⟩ ?_
  refine lv_aload_n E.1 E.2.1 dX0_bits_4 rfl (lv_at hl 0 rfl) ?_
  refine lv_iload_n E.1 E.2.1 dX0_bits_5 rfl (lv_at hl 1 rfl) ?_
  refine cV_v E (As := [.int (nI b)]) (rest := []) (cX_refuseUnpackedBlock l D ad ca T n kc ko kv k lo hi bw bb pk b (by omega) (by omega)) kX_120 hK hP 0 rfl rfl rfl rfl ⟨Nat.le_of_ble_eq_true rfl, Nat.le_of_ble_eq_true rfl⟩ rfl hl.1 rfl (Nat.le_of_ble_eq_true rfl) dX0_bits_6 ⟨Nat.zero_le _, Nat.zero_le _⟩ ?_
  refine lv_aload_n E.1 E.2.1 dX0_bits_9 rfl (lv_at hl 0 rfl) ?_
  refine n_get E inX hK hP 0 rfl rfl 9 (by decide) flX_39 rfl rfl dX0_bits_10 ?_
  refine lv_iload_n E.1 E.2.1 dX0_bits_13 rfl (lv_at hl 1 rfl) ?_
  refine lv_iload_n E.1 E.2.1 dX0_bits_14 rfl (lv_at hl 2 rfl) ?_
  refine cS_i E (As := [.int (nI b), .int (nI c)]) (rest := [.ref (ad 8)]) (cX_place l b c) kX_123 rfl rfl ⟨Nat.le_of_ble_eq_true rfl, Nat.le_of_ble_eq_true rfl⟩ rfl hl.1 rfl (Nat.le_of_ble_eq_true rfl) dX0_bits_15 ⟨Nat.zero_le _, Nat.zero_le _⟩ ?_
  refine n_iald E hK hP 8 7 rfl rfl (by decide) (by omega) dX0_bits_18 ?_
  exact e_i E hr hlk rfl dX0_bits_19
end
section
/-! Contracts of the hall: laid by program (wip/whole/gen.py). -/
set_option maxHeartbeats 4000000 in
set_option maxRecDepth 100000 in
theorem cX_append (l : Launch) (D : va_G) (ad : Nat → Nat) (ca : Nat → ClassId) (T : Nat → Nat → Int64) (n : Nat) (kc ko : Nat → Nat) (kv : Nat → Int64) (k : Nat) (lo hi : Nat → Int64) (bw bb pk : Nat → Nat) (a0 b0 c0 : Int32) (d0 : Int64) (hN : inj ad 10) (hn : n < 128) : Met l yX0_append (wA yX0_append cX0_append 7 (some .int)) (rN 4) (va_Pc [.ref (ad 0), .int a0, .int b0, .int c0, .long d0] (pW D c2 (tX ca) (wX ad ca T n kc ko kv k lo hi bw bb pk))) (qI (fun z (u : (Nat → Int64) × (Nat → Int64) × (Nat → Nat) × (Nat → Nat)) => z = nI n ∧ (∀ c, (n + 1) % 16 = 0 → c < 4 → Pk (apT T n a0 b0 c0 d0) (n / 16) c u.1 u.2.1 u.2.2.1 u.2.2.2) ∧ (∀ i, ((n + 1) % 16 ≠ 0 ∨ i < n / 16 * 4 ∨ n / 16 * 4 + 4 ≤ i) → u.1 i = lo i ∧ u.2.1 i = hi i ∧ u.2.2.1 i = bw i ∧ u.2.2.2 i = bb i)) D c2 (fun u => wX ad ca (apT T n a0 b0 c0 d0) (n + 1) kc ko kv k u.1 u.2.1 u.2.2.1 u.2.2.2 pk) (fA ad 10)) 0 0 (fA ad 10) := by
  refine met_of RX0 rfl (by decide) (Nat.le_of_ble_eq_true rfl) (fun p e s m below meth cd ls E hr hlk _ hB hl => ?_)
  obtain ⟨hP, hK⟩ := hB
  have hl : lv_has ls 7 [(0, .ref (ad 0)), (1, .int a0), (2, .int b0), (3, .int c0), (4, .long d0)] := hl
  have hS : va_S (fA ad 10) s.heap s.heap [] := va_S.rf
  refine lv_aload_n E.1 E.2.1 dX0_append_0 rfl (lv_at hl 0 rfl) ?_
  refine n_get E inX hK hP 0 rfl rfl 1 (by decide) flX_13 rfl rfl dX0_append_1 ?_
  refine lv_sipush (v := nI 128) E.1 E.2.1 dX0_append_4 rfl ?_
  refine n_icmp_lt (tgt := 20) E dX0_append_7 rfl (by omega) (by omega) (fun h7 => ?_) (fun h7 => ?_)
  · skip
    refine lv_aload_n E.1 E.2.1 dX0_append_20 rfl (lv_at hl 0 rfl) ?_
    refine n_get E inX hK hP 0 rfl rfl 1 (by decide) flX_13 rfl rfl dX0_append_21 ?_
    refine lv_istore (lv' := [(6, .int (nI n)), (0, .ref (ad 0)), (1, .int a0), (2, .int b0), (3, .int c0), (4, .long d0)]) E.1 E.2.1 dX0_append_24 hl (by decide) rfl (fun ls hl => ?_)
    refine lv_aload_n E.1 E.2.1 dX0_append_26 rfl (lv_at hl 1 rfl) ?_
    refine n_get E inX hK hP 0 rfl rfl 0 (by decide) flX_9 rfl rfl dX0_append_27 ?_
    refine lv_iload E.1 E.2.1 dX0_append_30 (lv_at hl 0 rfl) ?_
    refine lv_iconst (v := nI 0) E.1 E.2.1 dX0_append_32 rfl ?_
    refine cS_i E (As := [.int (nI n), .int (nI 0)]) (rest := [.ref (ad 1)]) (cX_spot l n 0) kX_52 rfl rfl ⟨Nat.le_of_ble_eq_true rfl, Nat.le_of_ble_eq_true rfl⟩ rfl hl.1 rfl (Nat.le_of_ble_eq_true rfl) dX0_append_33 ⟨Nat.zero_le _, Nat.zero_le _⟩ ?_
    refine lv_iload_n E.1 E.2.1 dX0_append_36 rfl (lv_at hl 2 rfl) ?_
    refine lv_i2l E.1 E.2.1 dX0_append_37 rfl ?_
    refine n_cast E hK hP (dW hN rfl) hS 1 0 rfl rfl n 0 (by omega) (by omega) (by omega) dX0_append_38 (fun H locs hP hS => ?_)
    have hP : va_P D c2 (wX ad ca (tS T n 0 (Int32.toInt64 a0)) n kc ko kv k lo hi bw bb pk) H := hP
    refine lv_aload_n E.1 E.2.1 dX0_append_39 rfl (lv_at hl 1 rfl) ?_
    refine n_get E inX hK hP 0 rfl rfl 0 (by decide) flX_9 rfl rfl dX0_append_40 ?_
    refine lv_iload E.1 E.2.1 dX0_append_43 (lv_at hl 0 rfl) ?_
    refine lv_iconst (v := nI 1) E.1 E.2.1 dX0_append_45 rfl ?_
    refine cS_i E (As := [.int (nI n), .int (nI 1)]) (rest := [.ref (ad 1)]) (cX_spot l n 1) kX_52 rfl rfl ⟨Nat.le_of_ble_eq_true rfl, Nat.le_of_ble_eq_true rfl⟩ rfl hl.1 rfl (Nat.le_of_ble_eq_true rfl) dX0_append_46 ⟨Nat.zero_le _, Nat.zero_le _⟩ ?_
    refine lv_iload_n E.1 E.2.1 dX0_append_49 rfl (lv_at hl 3 rfl) ?_
    refine lv_i2l E.1 E.2.1 dX0_append_50 rfl ?_
    refine n_cast E hK hP (dW hN rfl) hS 1 0 rfl rfl n 1 (by omega) (by omega) (by omega) dX0_append_51 (fun H locs hP hS => ?_)
    have hP : va_P D c2 (wX ad ca (tS (tS T n 0 (Int32.toInt64 a0)) n 1 (Int32.toInt64 b0)) n kc ko kv k lo hi bw bb pk) H := hP
    refine lv_aload_n E.1 E.2.1 dX0_append_52 rfl (lv_at hl 1 rfl) ?_
    refine n_get E inX hK hP 0 rfl rfl 0 (by decide) flX_9 rfl rfl dX0_append_53 ?_
    refine lv_iload E.1 E.2.1 dX0_append_56 (lv_at hl 0 rfl) ?_
    refine lv_iconst (v := nI 2) E.1 E.2.1 dX0_append_58 rfl ?_
    refine cS_i E (As := [.int (nI n), .int (nI 2)]) (rest := [.ref (ad 1)]) (cX_spot l n 2) kX_52 rfl rfl ⟨Nat.le_of_ble_eq_true rfl, Nat.le_of_ble_eq_true rfl⟩ rfl hl.1 rfl (Nat.le_of_ble_eq_true rfl) dX0_append_59 ⟨Nat.zero_le _, Nat.zero_le _⟩ ?_
    refine lv_iload_n E.1 E.2.1 dX0_append_62 rfl (lv_at hl 4 rfl) ?_
    refine lv_i2l E.1 E.2.1 dX0_append_63 rfl ?_
    refine n_cast E hK hP (dW hN rfl) hS 1 0 rfl rfl n 2 (by omega) (by omega) (by omega) dX0_append_64 (fun H locs hP hS => ?_)
    have hP : va_P D c2 (wX ad ca (tS (tS (tS T n 0 (Int32.toInt64 a0)) n 1 (Int32.toInt64 b0)) n 2 (Int32.toInt64 c0)) n kc ko kv k lo hi bw bb pk) H := hP
    refine lv_aload_n E.1 E.2.1 dX0_append_65 rfl (lv_at hl 1 rfl) ?_
    refine n_get E inX hK hP 0 rfl rfl 0 (by decide) flX_9 rfl rfl dX0_append_66 ?_
    refine lv_iload E.1 E.2.1 dX0_append_69 (lv_at hl 0 rfl) ?_
    refine lv_iconst (v := nI 3) E.1 E.2.1 dX0_append_71 rfl ?_
    refine cS_i E (As := [.int (nI n), .int (nI 3)]) (rest := [.ref (ad 1)]) (cX_spot l n 3) kX_52 rfl rfl ⟨Nat.le_of_ble_eq_true rfl, Nat.le_of_ble_eq_true rfl⟩ rfl hl.1 rfl (Nat.le_of_ble_eq_true rfl) dX0_append_72 ⟨Nat.zero_le _, Nat.zero_le _⟩ ?_
    refine lv_lload E.1 E.2.1 dX0_append_75 (lv_at hl 5 rfl) ?_
    refine n_cast E hK hP (dW hN rfl) hS 1 0 rfl rfl n 3 (by omega) (by omega) (by omega) dX0_append_77 (fun H locs hP hS => ?_)
    have hP : va_P D c2 (wX ad ca (tS (tS (tS (tS T n 0 (Int32.toInt64 a0)) n 1 (Int32.toInt64 b0)) n 2 (Int32.toInt64 c0)) n 3 d0) n kc ko kv k lo hi bw bb pk) H := hP
    refine lv_aload_n E.1 E.2.1 dX0_append_78 rfl (lv_at hl 1 rfl) ?_
    refine lv_iload E.1 E.2.1 dX0_append_79 (lv_at hl 0 rfl) ?_
    refine lv_iconst (v := nI 1) E.1 E.2.1 dX0_append_81 rfl ?_
    refine n_iadd E dX0_append_82 ?_
    refine n_put E inX tyX0 tyX0_ok nmX0 hK hP (dW hN rfl) hS 0 rfl rfl 1 (by decide) flX_13 rfl rfl (tyX0_ok 1 (by decide)) (Nat.le_of_ble_eq_true rfl) dX0_append_83 (fun H locs hP hS => ?_)
    have hP : va_P D c2 (wX ad ca (tS (tS (tS (tS T n 0 (Int32.toInt64 a0)) n 1 (Int32.toInt64 b0)) n 2 (Int32.toInt64 c0)) n 3 d0) (n + 1) kc ko kv k lo hi bw bb pk) H := hP
    refine lv_aload_n E.1 E.2.1 dX0_append_86 rfl (lv_at hl 1 rfl) ?_
    refine n_get E inX hK hP 0 rfl rfl 1 (by decide) flX_13 rfl rfl dX0_append_87 ?_
    refine lv_bipush (v := nI 16) E.1 E.2.1 dX0_append_90 rfl ?_
    refine n_irem E (by omega) (by omega) (by omega) dX0_append_92 ?_
    refine n_if_ne (tgt := 105) E dX0_append_93 rfl (by omega) (fun h93 => ?_) (fun h93 => ?_)
    · skip
      refine lv_iload E.1 E.2.1 dX0_append_105 (lv_at hl 0 rfl) ?_
      exact e_wi E hr hlk hS (lo, hi, bw, bb) (⟨rfl, fun c h => absurd h h93, fun i _ => ⟨rfl, rfl, rfl, rfl⟩⟩) hP dX0_append_107
    · skip
      refine lv_aload_n E.1 E.2.1 dX0_append_96 rfl (lv_at hl 1 rfl) ?_
      refine lv_iload E.1 E.2.1 dX0_append_97 (lv_at hl 0 rfl) ?_
      refine lv_bipush (v := nI 16) E.1 E.2.1 dX0_append_99 rfl ?_
      refine n_idiv E (by omega) (by omega) (by omega) dX0_append_101 ?_
      refine cV_wv E (As := [.int (nI (n / 16))]) (rest := []) (cX_packBlock l D ad ca (tS (tS (tS (tS T n 0 (Int32.toInt64 a0)) n 1 (Int32.toInt64 b0)) n 2 (Int32.toInt64 c0)) n 3 d0) (n + 1) kc ko kv k lo hi bw bb pk (n / 16) hN (by omega)) kX_56 hK hP hS (fun _ h => h) 0 rfl rfl rfl rfl ⟨Nat.le_of_ble_eq_true rfl, Nat.le_of_ble_eq_true rfl⟩ rfl hl.1 rfl (Nat.le_of_ble_eq_true rfl) dX0_append_102 ⟨Nat.zero_le _, Nat.zero_le _⟩ (fun u102 H locs hp102 hP _ _ hS => ?_)
      have hP : va_P D c2 (wX ad ca (tS (tS (tS (tS T n 0 (Int32.toInt64 a0)) n 1 (Int32.toInt64 b0)) n 2 (Int32.toInt64 c0)) n 3 d0) (n + 1) kc ko kv k u102.1 u102.2.1 u102.2.2.1 u102.2.2.2 pk) H := hP
      refine lv_iload E.1 E.2.1 dX0_append_105 (lv_at hl 0 rfl) ?_
      exact e_wi E hr hlk hS u102 (⟨rfl, fun c _ hc => hp102.1 c hc, fun i hi => hp102.2 i (by omega)⟩) hP dX0_append_107
  · skip
    exfalso; omega
set_option maxHeartbeats 4000000 in
set_option maxRecDepth 100000 in
theorem cX_purge (l : Launch) (D : va_G) (ad : Nat → Nat) (ca : Nat → ClassId) (T : Nat → Nat → Int64) (n : Nat) (kc ko : Nat → Nat) (kv : Nat → Int64) (k : Nat) (lo hi : Nat → Int64) (bw bb pk : Nat → Nat)  (hIK : iK kc ko k) (hN : inj ad 10) (hn128 : n ≤ 128) (hiB : iB T n lo hi) : Met l yX0_purge (wA yX0_purge cX0_purge 5 (some .int)) (rN 5) (va_Pc [.ref (ad 0)] (pW D c2 (tX ca) (wX ad ca T n kc ko kv k lo hi bw bb pk))) (qI (fun z (u : (Nat → Int64) × (Nat → Int64) × (Nat → Nat) × (Nat → Nat) × (Nat → Nat)) => z = nI (ct (ch T kc ko kv k) n) ∧ (∀ b c, b < (n - ct (ch T kc ko kv k) n) / 16 → c < 4 → Pk (pT (ch T kc ko kv k) T n) b c u.1 u.2.1 u.2.2.1 u.2.2.2.1)) D c2 (fun u => wX ad ca (pT (ch T kc ko kv k) T n) (n - ct (ch T kc ko kv k) n) kc ko kv k u.1 u.2.1 u.2.2.1 u.2.2.2.1 u.2.2.2.2) (fA ad 10)) 0 0 (fA ad 10) := by
  refine met_of RX0 rfl (by decide) (Nat.le_of_ble_eq_true rfl) (fun p e s m below meth cd ls E hr hlk _ hB hl => ?_)
  obtain ⟨hP, hK⟩ := hB
  have hl : lv_has ls 5 [(0, .ref (ad 0))] := hl
  have hS : va_S (fA ad 10) s.heap s.heap [] := va_S.rf
  refine lv_aload_n E.1 E.2.1 dX0_purge_0 rfl (lv_at hl 0 rfl) ?_
  refine cV_wi E (As := []) (rest := []) (cX_pick l D ad ca T n kc ko kv k lo hi bw bb pk hIK hN hn128 hiB) kX_75 hK hP hS (fun _ h => h) 0 rfl rfl rfl rfl ⟨Nat.le_of_ble_eq_true rfl, Nat.le_of_ble_eq_true rfl⟩ rfl hl.1 rfl (Nat.le_of_ble_eq_true rfl) dX0_purge_1 ⟨Nat.zero_le _, Nat.zero_le _⟩ (fun z1 u1 H locs hp1 hP _ _ hS => ?_)
  obtain ⟨hz1, hE1⟩ := hp1
  subst hz1
  have hP : va_P D c2 (wX ad ca T n kc ko kv k lo hi bw bb u1) H := hP
  have hct := ct_le (ch T kc ko kv k) n
  refine lv_istore_n (lv' := [(1, .int (nI (ct (ch T kc ko kv k) n))), (0, .ref (ad 0))]) E.1 E.2.1 dX0_purge_4 rfl hl (by decide) rfl (fun ls hl => ?_)
  refine lv_iconst (v := nI 0) E.1 E.2.1 dX0_purge_5 rfl ?_
  refine lv_istore_n (lv' := [(2, .int (nI 0)), (1, .int (nI (ct (ch T kc ko kv k) n))), (0, .ref (ad 0))]) E.1 E.2.1 dX0_purge_6 rfl hl (by decide) rfl (fun ls hl => ?_)
  refine lv_iconst (v := nI 0) E.1 E.2.1 dX0_purge_7 rfl ?_
  refine lv_istore_n (lv' := [(3, .int (nI 0)), (2, .int (nI 0)), (1, .int (nI (ct (ch T kc ko kv k) n))), (0, .ref (ad 0))]) E.1 E.2.1 dX0_purge_8 rfl hl (by decide) rfl (fun ls hl => ?_)
  refine lv_iconst (v := nI 0) E.1 E.2.1 dX0_purge_9 rfl ?_
  refine lv_istore (lv' := [(4, .int (nI 0)), (3, .int (nI 0)), (2, .int (nI 0)), (1, .int (nI (ct (ch T kc ko kv k) n))), (0, .ref (ad 0))]) E.1 E.2.1 dX0_purge_10 hl (by decide) rfl (fun ls hl => ?_)
  refine w_lq1 (fun (r : Nat) => r ≤ n) (fun (r : Nat) => n - r) (fun (r : Nat) => [(4, .int (nI r)), (3, .int (nI (ct (ch T kc ko kv k) r))), (2, .int (nI (r - ct (ch T kc ko kv k) r))), (0, .ref (ad 0)), (1, .int (nI (ct (ch T kc ko kv k) n)))]) (fun (r : Nat) H locs => va_P D c2 (wX ad ca (pT (ch T kc ko kv k) T r) n kc ko kv k lo hi bw bb u1) H ∧ va_S (fA ad 10) s.heap H locs) 0 (Nat.zero_le _) ⟨hP, hS⟩ (lv_sub hl [0, 1, 2, 4, 3] rfl) (fun r ls H locs hI hB hl ih12 => ?_)
  obtain ⟨hP, hS⟩ := hB
  have hl : lv_has ls 5 [(4, .int (nI r)), (3, .int (nI (ct (ch T kc ko kv k) r))), (2, .int (nI (r - ct (ch T kc ko kv k) r))), (0, .ref (ad 0)), (1, .int (nI (ct (ch T kc ko kv k) n)))] := hl
  have hP : va_P D c2 (wX ad ca (pT (ch T kc ko kv k) T r) n kc ko kv k lo hi bw bb u1) H := hP
  refine lv_iload E.1 E.2.1 dX0_purge_12 (lv_at hl 0 rfl) ?_
  refine lv_aload_n E.1 E.2.1 dX0_purge_14 rfl (lv_at hl 3 rfl) ?_
  refine n_get E inX hK hP 0 rfl rfl 1 (by decide) flX_13 rfl rfl dX0_purge_15 ?_
  have hctr := ct_le (ch T kc ko kv k) r
  refine n_icmp_ge (tgt := 59) E dX0_purge_18 rfl (by omega) (by omega) (fun h18 => ?_) (fun h18 => ?_)
  · skip
    refine lv_aload_n E.1 E.2.1 dX0_purge_59 rfl (lv_at hl 3 rfl) ?_
    refine lv_iload_n E.1 E.2.1 dX0_purge_60 rfl (lv_at hl 2 rfl) ?_
    refine n_put E inX tyX0 tyX0_ok nmX0 hK hP (dW hN rfl) hS 0 rfl rfl 1 (by decide) flX_13 rfl rfl (tyX0_ok 1 (by decide)) (Nat.le_of_ble_eq_true rfl) dX0_purge_61 (fun H locs hP hS => ?_)
    have hP : va_P D c2 (wX ad ca (pT (ch T kc ko kv k) T r) (r - ct (ch T kc ko kv k) r) kc ko kv k lo hi bw bb u1) H := hP
    refine lv_aload_n E.1 E.2.1 dX0_purge_64 rfl (lv_at hl 3 rfl) ?_
    refine cV_wv E (As := []) (rest := []) (cX_packFullBlocks l D ad ca (pT (ch T kc ko kv k) T r) (r - ct (ch T kc ko kv k) r) kc ko kv k lo hi bw bb u1 hN (by omega)) kX_130 hK hP hS (fun _ h => h) 0 rfl rfl rfl rfl ⟨Nat.le_of_ble_eq_true rfl, Nat.le_of_ble_eq_true rfl⟩ rfl hl.1 rfl (Nat.le_of_ble_eq_true rfl) dX0_purge_65 ⟨Nat.zero_le _, Nat.zero_le _⟩ (fun u65 H locs hp65 hP _ _ hS => ?_)
    have hP : va_P D c2 (wX ad ca (pT (ch T kc ko kv k) T r) (r - ct (ch T kc ko kv k) r) kc ko kv k u65.1 u65.2.1 u65.2.2.1 u65.2.2.2 u1) H := hP
    refine lv_iload_n E.1 E.2.1 dX0_purge_68 rfl (lv_at hl 4 rfl) ?_
    exact e_wi E hr hlk hS (u65.1, u65.2.1, u65.2.2.1, u65.2.2.2, u1) (⟨rfl, by rw [show n = r by omega]; exact hp65⟩) (by rw [show n = r by omega]; exact hP) dX0_purge_69
  · skip
    refine lv_iload_n E.1 E.2.1 dX0_purge_21 rfl (lv_at hl 1 rfl) ?_
    refine lv_iload_n E.1 E.2.1 dX0_purge_22 rfl (lv_at hl 4 rfl) ?_
    refine n_icmp_ge (tgt := 43) E dX0_purge_23 rfl (by omega) (by omega) (fun h23 => ?_) (fun h23 => ?_)
    · skip
      refine lv_aload_n E.1 E.2.1 dX0_purge_43 rfl (lv_at hl 3 rfl) ?_
      refine lv_iload E.1 E.2.1 dX0_purge_44 (lv_at hl 0 rfl) ?_
      refine lv_iload_n E.1 E.2.1 dX0_purge_46 rfl (lv_at hl 2 rfl) ?_
      refine cV_wv E (As := [.int (nI r), .int (nI (r - ct (ch T kc ko kv k) r))]) (rest := []) (cX_moveRow l D ad ca (pT (ch T kc ko kv k) T r) n kc ko kv k lo hi bw bb u1 r (r - ct (ch T kc ko kv k) r) hN (by omega) (by omega)) kX_126 hK hP hS (fun _ h => h) 0 rfl rfl rfl rfl ⟨Nat.le_of_ble_eq_true rfl, Nat.le_of_ble_eq_true rfl⟩ rfl hl.1 rfl (Nat.le_of_ble_eq_true rfl) dX0_purge_47 ⟨Nat.zero_le _, Nat.zero_le _⟩ (fun u47 H locs hp47 hP _ _ hS => ?_)
      have hP : va_P D c2 (wX ad ca (mvR (pT (ch T kc ko kv k) T r) r (r - ct (ch T kc ko kv k) r) 4) n kc ko kv k lo hi bw bb u1) H := hP
      refine lv_iinc (k := 2) (v := nI (r - ct (ch T kc ko kv k) r + 1)) (lv' := [(2, .int (nI (r - ct (ch T kc ko kv k) r + 1))), (4, .int (nI r)), (3, .int (nI (ct (ch T kc ko kv k) r))), (0, .ref (ad 0)), (1, .int (nI (ct (ch T kc ko kv k) n)))]) E.1 E.2.1 dX0_purge_50 hl rfl (inc1 _) (by decide) rfl (fun ls hl => ?_)
      refine lv_iinc (k := 1) (v := nI (r + 1)) (lv' := [(4, .int (nI (r + 1))), (2, .int (nI (r - ct (ch T kc ko kv k) r + 1))), (3, .int (nI (ct (ch T kc ko kv k) r))), (0, .ref (ad 0)), (1, .int (nI (ct (ch T kc ko kv k) n)))]) E.1 E.2.1 dX0_purge_53 hl rfl (inc1 _) (by decide) rfl (fun ls hl => ?_)
      refine lv_goto (tgt := 12) E.1 E.2.1 dX0_purge_56 rfl ?_
      have hPr : (ch T kc ko kv k) r = false := pu_f1 hE1 h18 h23
      rw [← pT_f hPr] at hP
      rw [show r - ct (ch T kc ko kv k) r + 1 = r + 1 - ct (ch T kc ko kv k) (r + 1) by rw [ct_f hPr]; omega, ← ct_f hPr] at hl
      exact ih12 (r + 1) _ _ _ (by omega) (by omega) ⟨hP, hS⟩ (lv_sub hl [0, 2, 1, 3, 4] rfl)
    · skip
      refine lv_aload_n E.1 E.2.1 dX0_purge_26 rfl (lv_at hl 3 rfl) ?_
      refine n_get E inX hK hP 0 rfl rfl 10 (by decide) flX_42 rfl rfl dX0_purge_27 ?_
      refine lv_iload_n E.1 E.2.1 dX0_purge_30 rfl (lv_at hl 1 rfl) ?_
      have hqi := (en_inv hE1 (ct (ch T kc ko kv k) r) h23).1
      refine n_iald E hK hP 9 8 rfl rfl (by decide) (by omega) dX0_purge_31 ?_
      refine lv_iload E.1 E.2.1 dX0_purge_32 (lv_at hl 0 rfl) ?_
      refine n_icmp_ne (tgt := 43) E dX0_purge_34 rfl (by omega) (by omega) (fun h34 => ?_) (fun h34 => ?_)
      · skip
        refine lv_aload_n E.1 E.2.1 dX0_purge_43 rfl (lv_at hl 3 rfl) ?_
        refine lv_iload E.1 E.2.1 dX0_purge_44 (lv_at hl 0 rfl) ?_
        refine lv_iload_n E.1 E.2.1 dX0_purge_46 rfl (lv_at hl 2 rfl) ?_
        refine cV_wv E (As := [.int (nI r), .int (nI (r - ct (ch T kc ko kv k) r))]) (rest := []) (cX_moveRow l D ad ca (pT (ch T kc ko kv k) T r) n kc ko kv k lo hi bw bb u1 r (r - ct (ch T kc ko kv k) r) hN (by omega) (by omega)) kX_126 hK hP hS (fun _ h => h) 0 rfl rfl rfl rfl ⟨Nat.le_of_ble_eq_true rfl, Nat.le_of_ble_eq_true rfl⟩ rfl hl.1 rfl (Nat.le_of_ble_eq_true rfl) dX0_purge_47 ⟨Nat.zero_le _, Nat.zero_le _⟩ (fun u47 H locs hp47 hP _ _ hS => ?_)
        have hP : va_P D c2 (wX ad ca (mvR (pT (ch T kc ko kv k) T r) r (r - ct (ch T kc ko kv k) r) 4) n kc ko kv k lo hi bw bb u1) H := hP
        refine lv_iinc (k := 2) (v := nI (r - ct (ch T kc ko kv k) r + 1)) (lv' := [(2, .int (nI (r - ct (ch T kc ko kv k) r + 1))), (4, .int (nI r)), (3, .int (nI (ct (ch T kc ko kv k) r))), (0, .ref (ad 0)), (1, .int (nI (ct (ch T kc ko kv k) n)))]) E.1 E.2.1 dX0_purge_50 hl rfl (inc1 _) (by decide) rfl (fun ls hl => ?_)
        refine lv_iinc (k := 1) (v := nI (r + 1)) (lv' := [(4, .int (nI (r + 1))), (2, .int (nI (r - ct (ch T kc ko kv k) r + 1))), (3, .int (nI (ct (ch T kc ko kv k) r))), (0, .ref (ad 0)), (1, .int (nI (ct (ch T kc ko kv k) n)))]) E.1 E.2.1 dX0_purge_53 hl rfl (inc1 _) (by decide) rfl (fun ls hl => ?_)
        refine lv_goto (tgt := 12) E.1 E.2.1 dX0_purge_56 rfl ?_
        have hPr : (ch T kc ko kv k) r = false := pu_f2 hE1 h18 h34
        rw [← pT_f hPr] at hP
        rw [show r - ct (ch T kc ko kv k) r + 1 = r + 1 - ct (ch T kc ko kv k) (r + 1) by rw [ct_f hPr]; omega, ← ct_f hPr] at hl
        exact ih12 (r + 1) _ _ _ (by omega) (by omega) ⟨hP, hS⟩ (lv_sub hl [0, 2, 1, 3, 4] rfl)
      · skip
        refine lv_iinc (k := 1) (v := nI (ct (ch T kc ko kv k) r + 1)) (lv' := [(3, .int (nI (ct (ch T kc ko kv k) r + 1))), (4, .int (nI r)), (2, .int (nI (r - ct (ch T kc ko kv k) r))), (0, .ref (ad 0)), (1, .int (nI (ct (ch T kc ko kv k) n)))]) E.1 E.2.1 dX0_purge_37 hl rfl (inc1 _) (by decide) rfl (fun ls hl => ?_)
        refine lv_goto (tgt := 53) E.1 E.2.1 dX0_purge_40 rfl ?_
        refine lv_iinc (k := 1) (v := nI (r + 1)) (lv' := [(4, .int (nI (r + 1))), (3, .int (nI (ct (ch T kc ko kv k) r + 1))), (2, .int (nI (r - ct (ch T kc ko kv k) r))), (0, .ref (ad 0)), (1, .int (nI (ct (ch T kc ko kv k) n)))]) E.1 E.2.1 dX0_purge_53 hl rfl (inc1 _) (by decide) rfl (fun ls hl => ?_)
        refine lv_goto (tgt := 12) E.1 E.2.1 dX0_purge_56 rfl ?_
        have hPr : (ch T kc ko kv k) r = true := pu_t hE1 h23 h34
        rw [← pT_t hPr] at hP
        rw [← ct_t hPr, show r - ct (ch T kc ko kv k) r = r + 1 - ct (ch T kc ko kv k) (r + 1) by rw [ct_t hPr]; omega] at hl
        exact ih12 (r + 1) _ _ _ (by omega) (by omega) ⟨hP, hS⟩ (lv_sub hl [0, 1, 2, 3, 4] rfl)
end
section
/-! Contracts of the model: laid by program (wip/whole/gen.py). -/
set_option maxHeartbeats 4000000 in
set_option maxRecDepth 100000 in
theorem cR_thrown (l : Launch) (D : va_G) (ad : Nat → Nat) (ca : Nat → ClassId) (T : Nat → Nat → Int64) (n : Nat) (kc ko : Nat → Nat) (kv : Nat → Int64) (k cd : Nat)   : Met l yX1_thrown (wA yX1_thrown cX1_thrown 1 (some .int)) (rN 0) (va_Pc [.ref (ad 0)] (pW D c2 (tR ca) (wR ad ca T n kc ko kv k cd))) (vp_Si (fun z => z = nI cd)) 0 0 (fun _ => False) := by
  refine met_of RX1 rfl (by decide) (Nat.le_of_ble_eq_true rfl) (fun p e s m below meth cd0 ls E hr hlk _ hB hl => ?_)
  obtain ⟨hP, hK⟩ := hB
  have hl : lv_has ls 1 [(0, .ref (ad 0))] := hl
  refine lv_aload_n E.1 E.2.1 dX1_thrown_0 rfl (lv_at hl 0 rfl) ?_
  refine n_get E inR hK hP 0 rfl rfl 0 (by decide) flR_23 rfl rfl dX1_thrown_1 ?_
  exact e_i E hr hlk rfl dX1_thrown_4
set_option maxHeartbeats 4000000 in
set_option maxRecDepth 100000 in
theorem cR_isColumn (l : Launch) (x : Int32)  : Met l yX1_isColumn (wA yX1_isColumn cX1_isColumn 1 (some .boolean)) (rN 0) (va_Pc [.int x] (fun _ => True)) (vp_Si (fun z => z = bI (isC x))) 0 0 (fun _ => False) := by
  refine met_of RX1 rfl (by decide) (Nat.le_of_ble_eq_true rfl) (fun p e s m below meth cd0 ls E hr hlk _ hB hl => ?_)
  have hl : lv_has ls 1 [(0, .int x)] := hl
  refine lv_iload_n E.1 E.2.1 dX1_isColumn_0 rfl (lv_at hl 0 rfl) ?_
  refine lv_if_lt (tgt := 13) E.1 E.2.1 dX1_isColumn_1 rfl (fun h1 => ?_) (fun h1 => ?_)
  · skip
    refine lv_iconst (v := nI 0) E.1 E.2.1 dX1_isColumn_13 rfl ?_
    exact e_z E hr hlk (show _ = _ from congrArg bI (show false = _ from by simp [isC, h1])) dX1_isColumn_14
  · skip
    refine lv_iload_n E.1 E.2.1 dX1_isColumn_4 rfl (lv_at hl 0 rfl) ?_
    refine lv_iconst (v := nI 3) E.1 E.2.1 dX1_isColumn_5 rfl ?_
    refine lv_icmp_gt (tgt := 13) E.1 E.2.1 dX1_isColumn_6 rfl (fun h6 => ?_) (fun h6 => ?_)
    · skip
      refine lv_iconst (v := nI 0) E.1 E.2.1 dX1_isColumn_13 rfl ?_
      exact e_z E hr hlk (show _ = _ from congrArg bI (show false = _ from by simp [isC, h1, h6])) dX1_isColumn_14
    · skip
      refine lv_iconst (v := nI 1) E.1 E.2.1 dX1_isColumn_9 rfl ?_
      refine lv_goto (tgt := 14) E.1 E.2.1 dX1_isColumn_10 rfl ?_
      exact e_z E hr hlk (show _ = _ from congrArg bI (show true = _ from by simp [isC, h1, h6])) dX1_isColumn_14
set_option maxHeartbeats 4000000 in
set_option maxRecDepth 100000 in
theorem cR_holds (l : Launch) (o : Nat) (x v : Int64) (ho : o < 6) : Met l yX1_holds (wA yX1_holds cX1_holds 5 (some .boolean)) (rN 0) (va_Pc [.int (nI o), .long x, .long v] (fun _ => True)) (vp_Si (fun z => z = bI (hO o x v))) 0 0 (fun _ => False) := by
  refine met_of RX1 rfl (by decide) (Nat.le_of_ble_eq_true rfl) (fun p e s m below meth cd0 ls E hr hlk _ hB hl => ?_)
  have hl : lv_has ls 5 [(0, .int (nI o)), (1, .long x), (3, .long v)] := hl
  refine lv_iload_n E.1 E.2.1 dX1_holds_0 rfl (lv_at hl 0 rfl) ?_
  rcases o6 ho with rfl | rfl | rfl | rfl | rfl | rfl
  · skip
    refine lv_tableIn (off := 35) (tgt := 36) E.1 E.2.1 dX1_holds_1 (by decide) (by decide) (by decide) rfl ?_
    refine lv_lload_n E.1 E.2.1 dX1_holds_36 rfl (lv_at hl 1 rfl) ?_
    refine lv_lload_n E.1 E.2.1 dX1_holds_37 rfl (lv_at hl 2 rfl) ?_
    refine l_if_ge (tgt := 46) E dX1_holds_38 dX1_holds_39 rfl (fun h38 => ?_) (fun h38 => ?_)
    · skip
      refine lv_iconst (v := nI 0) E.1 E.2.1 dX1_holds_46 rfl ?_
      exact e_z E hr hlk (show _ = _ from congrArg bI (show false = _ from by simp [hO, h38])) dX1_holds_47
    · skip
      refine lv_iconst (v := nI 1) E.1 E.2.1 dX1_holds_42 rfl ?_
      refine lv_goto (tgt := 47) E.1 E.2.1 dX1_holds_43 rfl ?_
      exact e_z E hr hlk (show _ = _ from congrArg bI (show true = _ from by simp [hO, h38])) dX1_holds_47
  · skip
    refine lv_tableIn (off := 47) (tgt := 48) E.1 E.2.1 dX1_holds_1 (by decide) (by decide) (by decide) rfl ?_
    refine lv_lload_n E.1 E.2.1 dX1_holds_48 rfl (lv_at hl 1 rfl) ?_
    refine lv_lload_n E.1 E.2.1 dX1_holds_49 rfl (lv_at hl 2 rfl) ?_
    refine l_if_gt (tgt := 58) E dX1_holds_50 dX1_holds_51 rfl (fun h50 => ?_) (fun h50 => ?_)
    · skip
      refine lv_iconst (v := nI 0) E.1 E.2.1 dX1_holds_58 rfl ?_
      exact e_z E hr hlk (show _ = _ from congrArg bI (show false = _ from by simp [hO, h50])) dX1_holds_59
    · skip
      refine lv_iconst (v := nI 1) E.1 E.2.1 dX1_holds_54 rfl ?_
      refine lv_goto (tgt := 59) E.1 E.2.1 dX1_holds_55 rfl ?_
      exact e_z E hr hlk (show _ = _ from congrArg bI (show true = _ from by simp [hO, h50])) dX1_holds_59
  · skip
    refine lv_tableIn (off := 59) (tgt := 60) E.1 E.2.1 dX1_holds_1 (by decide) (by decide) (by decide) rfl ?_
    refine lv_lload_n E.1 E.2.1 dX1_holds_60 rfl (lv_at hl 1 rfl) ?_
    refine lv_lload_n E.1 E.2.1 dX1_holds_61 rfl (lv_at hl 2 rfl) ?_
    refine l_if_ne (tgt := 70) E dX1_holds_62 dX1_holds_63 rfl (fun h62 => ?_) (fun h62 => ?_)
    · skip
      refine lv_iconst (v := nI 0) E.1 E.2.1 dX1_holds_70 rfl ?_
      exact e_z E hr hlk (show _ = _ from congrArg bI (show false = _ from by simp [hO, h62])) dX1_holds_71
    · skip
      refine lv_iconst (v := nI 1) E.1 E.2.1 dX1_holds_66 rfl ?_
      refine lv_goto (tgt := 71) E.1 E.2.1 dX1_holds_67 rfl ?_
      exact e_z E hr hlk (show _ = _ from congrArg bI (show true = _ from by simp [hO, h62])) dX1_holds_71
  · skip
    refine lv_tableIn (off := 71) (tgt := 72) E.1 E.2.1 dX1_holds_1 (by decide) (by decide) (by decide) rfl ?_
    refine lv_lload_n E.1 E.2.1 dX1_holds_72 rfl (lv_at hl 1 rfl) ?_
    refine lv_lload_n E.1 E.2.1 dX1_holds_73 rfl (lv_at hl 2 rfl) ?_
    refine l_if_lt (tgt := 82) E dX1_holds_74 dX1_holds_75 rfl (fun h74 => ?_) (fun h74 => ?_)
    · skip
      refine lv_iconst (v := nI 0) E.1 E.2.1 dX1_holds_82 rfl ?_
      exact e_z E hr hlk (show _ = _ from congrArg bI (show false = _ from by simp [hO, h74])) dX1_holds_83
    · skip
      refine lv_iconst (v := nI 1) E.1 E.2.1 dX1_holds_78 rfl ?_
      refine lv_goto (tgt := 83) E.1 E.2.1 dX1_holds_79 rfl ?_
      exact e_z E hr hlk (show _ = _ from congrArg bI (show true = _ from by simp [hO, h74])) dX1_holds_83
  · skip
    refine lv_tableIn (off := 83) (tgt := 84) E.1 E.2.1 dX1_holds_1 (by decide) (by decide) (by decide) rfl ?_
    refine lv_lload_n E.1 E.2.1 dX1_holds_84 rfl (lv_at hl 1 rfl) ?_
    refine lv_lload_n E.1 E.2.1 dX1_holds_85 rfl (lv_at hl 2 rfl) ?_
    refine l_if_le (tgt := 94) E dX1_holds_86 dX1_holds_87 rfl (fun h86 => ?_) (fun h86 => ?_)
    · skip
      refine lv_iconst (v := nI 0) E.1 E.2.1 dX1_holds_94 rfl ?_
      exact e_z E hr hlk (show _ = _ from congrArg bI (show false = _ from by simp [hO, h86])) dX1_holds_95
    · skip
      refine lv_iconst (v := nI 1) E.1 E.2.1 dX1_holds_90 rfl ?_
      refine lv_goto (tgt := 95) E.1 E.2.1 dX1_holds_91 rfl ?_
      exact e_z E hr hlk (show _ = _ from congrArg bI (show true = _ from by simp [hO, h86])) dX1_holds_95
  · skip
    refine lv_tableOut (tgt := 96) E.1 E.2.1 dX1_holds_1 (by decide) rfl ?_
    refine lv_lload_n E.1 E.2.1 dX1_holds_96 rfl (lv_at hl 1 rfl) ?_
    refine lv_lload_n E.1 E.2.1 dX1_holds_97 rfl (lv_at hl 2 rfl) ?_
    refine l_if_eq (tgt := 106) E dX1_holds_98 dX1_holds_99 rfl (fun h98 => ?_) (fun h98 => ?_)
    · skip
      refine lv_iconst (v := nI 0) E.1 E.2.1 dX1_holds_106 rfl ?_
      exact e_z E hr hlk (show _ = _ from congrArg bI (show false = _ from by simp [hO, h98])) dX1_holds_107
    · skip
      refine lv_iconst (v := nI 1) E.1 E.2.1 dX1_holds_102 rfl ?_
      refine lv_goto (tgt := 107) E.1 E.2.1 dX1_holds_103 rfl ?_
      exact e_z E hr hlk (show _ = _ from congrArg bI (show true = _ from by simp [hO, h98])) dX1_holds_107
set_option maxHeartbeats 4000000 in
set_option maxRecDepth 100000 in
theorem cR_isChosen (l : Launch) (D : va_G) (ad : Nat → Nat) (ca : Nat → ClassId) (T : Nat → Nat → Int64) (n : Nat) (kc ko : Nat → Nat) (kv : Nat → Int64) (k cd : Nat) (r : Nat) (hIK : iK kc ko k) (hr0 : r < 128) : Met l yX1_isChosen (wA yX1_isChosen cX1_isChosen 4 (some .boolean)) (rN 1) (va_Pc [.ref (ad 0), .int (nI r)] (pW D c2 (tR ca) (wR ad ca T n kc ko kv k cd))) (vp_Si (fun z => z = bI (ch T kc ko kv k r))) 0 0 (fun _ => False) := by
  refine met_of RX1 rfl (by decide) (Nat.le_of_ble_eq_true rfl) (fun p e s m below meth cd0 ls E hr hlk _ hB hl => ?_)
  obtain ⟨hP, hK⟩ := hB
  have hl : lv_has ls 4 [(0, .ref (ad 0)), (1, .int (nI r))] := hl
  obtain ⟨hk, hkc, hko⟩ := id hIK
  refine lv_iconst (v := nI 1) E.1 E.2.1 dX1_isChosen_0 rfl ?_
  refine lv_istore_n (lv' := [(2, .int (nI 1)), (0, .ref (ad 0)), (1, .int (nI r))]) E.1 E.2.1 dX1_isChosen_1 rfl hl (by decide) rfl (fun ls hl => ?_)
  refine lv_iconst (v := nI 0) E.1 E.2.1 dX1_isChosen_2 rfl ?_
  refine lv_istore_n (lv' := [(3, .int (nI 0)), (2, .int (nI 1)), (0, .ref (ad 0)), (1, .int (nI r))]) E.1 E.2.1 dX1_isChosen_3 rfl hl (by decide) rfl (fun ls hl => ?_)
  refine w_lp1 (fun (j : Nat) => j ≤ k) (fun (j : Nat) => k - j) (fun (j : Nat) => [(3, .int (nI j)), (2, .int (bI (al (fun i => hO (ko i) (T r (kc i)) (kv i)) j))), (0, .ref (ad 0)), (1, .int (nI r))]) 0 (Nat.zero_le _) (lv_sub hl [0, 1, 2, 3] rfl) (fun j ls hI hl ih4 => ?_)
  have hl : lv_has ls 4 [(3, .int (nI j)), (2, .int (bI (al (fun i => hO (ko i) (T r (kc i)) (kv i)) j))), (0, .ref (ad 0)), (1, .int (nI r))] := hl
  refine lv_iload_n E.1 E.2.1 dX1_isChosen_4 rfl (lv_at hl 0 rfl) ?_
  refine lv_aload_n E.1 E.2.1 dX1_isChosen_5 rfl (lv_at hl 2 rfl) ?_
  refine n_get E inR hK hP 0 rfl rfl 3 (by decide) flR_34 rfl rfl dX1_isChosen_6 ?_
  refine n_icmp_ge (tgt := 61) E dX1_isChosen_9 rfl (by omega) (by omega) (fun h9 => ?_) (fun h9 => ?_)
  · skip
    refine lv_iload_n E.1 E.2.1 dX1_isChosen_61 rfl (lv_at hl 1 rfl) ?_
    exact e_z E hr hlk (congrArg bI (by rw [ch, show k = j by omega])) dX1_isChosen_62
  · skip
    refine lv_iload_n E.1 E.2.1 dX1_isChosen_12 rfl (lv_at hl 1 rfl) ?_
    refine b_if_eq (tgt := 53) E dX1_isChosen_13 rfl (fun h13 => ?_) (fun h13 => ?_)
    · skip
      refine lv_iconst (v := nI 0) E.1 E.2.1 dX1_isChosen_53 rfl ?_
      refine tpi (y := bI (al (fun i => hO (ko i) (T r (kc i)) (kv i)) (j + 1))) (congrArg bI (al2 h13 rfl).symm) ?_
      refine lv_istore_n (lv' := [(2, .int (bI (al (fun i => hO (ko i) (T r (kc i)) (kv i)) (j + 1)))), (3, .int (nI j)), (0, .ref (ad 0)), (1, .int (nI r))]) E.1 E.2.1 dX1_isChosen_54 rfl hl (by decide) rfl (fun ls hl => ?_)
      refine lv_iinc (k := 1) (v := nI (j + 1)) (lv' := [(3, .int (nI (j + 1))), (2, .int (bI (al (fun i => hO (ko i) (T r (kc i)) (kv i)) (j + 1)))), (0, .ref (ad 0)), (1, .int (nI r))]) E.1 E.2.1 dX1_isChosen_55 hl rfl (inc1 _) (by decide) rfl (fun ls hl => ?_)
      refine lv_goto (tgt := 4) E.1 E.2.1 dX1_isChosen_58 rfl ?_
      exact ih4 (j + 1) _ (by omega) (by omega) (lv_sub hl [0, 1, 2, 3] rfl)
    · skip
      refine lv_aload_n E.1 E.2.1 dX1_isChosen_16 rfl (lv_at hl 2 rfl) ?_
      refine n_get E inR hK hP 0 rfl rfl 5 (by decide) flR_17 rfl rfl dX1_isChosen_17 ?_
      refine lv_iload_n E.1 E.2.1 dX1_isChosen_20 rfl (lv_at hl 0 rfl) ?_
      refine n_iald E hK hP 3 2 rfl rfl (by decide) (by omega) dX1_isChosen_21 ?_
      refine lv_aload_n E.1 E.2.1 dX1_isChosen_22 rfl (lv_at hl 2 rfl) ?_
      refine n_get E inR hK hP 0 rfl rfl 2 (by decide) flR_7 rfl rfl dX1_isChosen_23 ?_
      refine lv_iconst (v := nI 4) E.1 E.2.1 dX1_isChosen_26 rfl ?_
      refine lv_iload_n E.1 E.2.1 dX1_isChosen_27 rfl (lv_at hl 3 rfl) ?_
      refine n_imul E dX1_isChosen_28 ?_
      refine lv_aload_n E.1 E.2.1 dX1_isChosen_29 rfl (lv_at hl 2 rfl) ?_
      refine n_get E inR hK hP 0 rfl rfl 4 (by decide) flR_13 rfl rfl dX1_isChosen_30 ?_
      refine lv_iload_n E.1 E.2.1 dX1_isChosen_33 rfl (lv_at hl 0 rfl) ?_
      have hq := hkc j
      refine n_iald E hK hP 2 1 rfl rfl (by decide) (by omega) dX1_isChosen_34 ?_
      refine n_iadd E dX1_isChosen_35 ?_
      refine n_rald E hK hP 1 0 rfl rfl r (kc j) (by omega) (by omega) (by omega) dX1_isChosen_36 ?_
      refine lv_aload_n E.1 E.2.1 dX1_isChosen_37 rfl (lv_at hl 2 rfl) ?_
      refine n_get E inR hK hP 0 rfl rfl 6 (by decide) flR_20 rfl rfl dX1_isChosen_38 ?_
      refine lv_iload_n E.1 E.2.1 dX1_isChosen_41 rfl (lv_at hl 0 rfl) ?_
      refine n_lald E hK hP 4 3 rfl rfl (by decide) (by omega) dX1_isChosen_42 ?_
      refine cS_i E (As := [.int (nI (ko j)), .long (T r (kc j)), .long (kv j)]) (rest := []) (cR_holds l (ko j) (T r (kc j)) (kv j) (hko j)) kR_37 rfl rfl ⟨Nat.le_of_ble_eq_true rfl, Nat.le_of_ble_eq_true rfl⟩ rfl hl.1 rfl (Nat.le_of_ble_eq_true rfl) dX1_isChosen_43 ⟨Nat.zero_le _, Nat.zero_le _⟩ ?_
      refine b_if_eq (tgt := 53) E dX1_isChosen_46 rfl (fun h46 => ?_) (fun h46 => ?_)
      · skip
        refine lv_iconst (v := nI 0) E.1 E.2.1 dX1_isChosen_53 rfl ?_
        refine tpi (y := bI (al (fun i => hO (ko i) (T r (kc i)) (kv i)) (j + 1))) (congrArg bI (al2 h13 h46).symm) ?_
        refine lv_istore_n (lv' := [(2, .int (bI (al (fun i => hO (ko i) (T r (kc i)) (kv i)) (j + 1)))), (3, .int (nI j)), (0, .ref (ad 0)), (1, .int (nI r))]) E.1 E.2.1 dX1_isChosen_54 rfl hl (by decide) rfl (fun ls hl => ?_)
        refine lv_iinc (k := 1) (v := nI (j + 1)) (lv' := [(3, .int (nI (j + 1))), (2, .int (bI (al (fun i => hO (ko i) (T r (kc i)) (kv i)) (j + 1)))), (0, .ref (ad 0)), (1, .int (nI r))]) E.1 E.2.1 dX1_isChosen_55 hl rfl (inc1 _) (by decide) rfl (fun ls hl => ?_)
        refine lv_goto (tgt := 4) E.1 E.2.1 dX1_isChosen_58 rfl ?_
        exact ih4 (j + 1) _ (by omega) (by omega) (lv_sub hl [0, 1, 2, 3] rfl)
      · skip
        refine lv_iconst (v := nI 1) E.1 E.2.1 dX1_isChosen_49 rfl ?_
        refine lv_goto (tgt := 54) E.1 E.2.1 dX1_isChosen_50 rfl ?_
        refine tpi (y := bI (al (fun i => hO (ko i) (T r (kc i)) (kv i)) (j + 1))) (congrArg bI (al2 h13 h46).symm) ?_
        refine lv_istore_n (lv' := [(2, .int (bI (al (fun i => hO (ko i) (T r (kc i)) (kv i)) (j + 1)))), (3, .int (nI j)), (0, .ref (ad 0)), (1, .int (nI r))]) E.1 E.2.1 dX1_isChosen_54 rfl hl (by decide) rfl (fun ls hl => ?_)
        refine lv_iinc (k := 1) (v := nI (j + 1)) (lv' := [(3, .int (nI (j + 1))), (2, .int (bI (al (fun i => hO (ko i) (T r (kc i)) (kv i)) (j + 1)))), (0, .ref (ad 0)), (1, .int (nI r))]) E.1 E.2.1 dX1_isChosen_55 hl rfl (inc1 _) (by decide) rfl (fun ls hl => ?_)
        refine lv_goto (tgt := 4) E.1 E.2.1 dX1_isChosen_58 rfl ?_
        exact ih4 (j + 1) _ (by omega) (by omega) (lv_sub hl [0, 1, 2, 3] rfl)
set_option maxHeartbeats 4000000 in
set_option maxRecDepth 100000 in
theorem cR_countChosen (l : Launch) (D : va_G) (ad : Nat → Nat) (ca : Nat → ClassId) (T : Nat → Nat → Int64) (n : Nat) (kc ko : Nat → Nat) (kv : Nat → Int64) (k cd : Nat)  (hIK : iK kc ko k) (hn128 : n ≤ 128) : Met l yX1_countChosen (wA yX1_countChosen cX1_countChosen 3 (some .int)) (rN 2) (va_Pc [.ref (ad 0)] (pW D c2 (tR ca) (wR ad ca T n kc ko kv k cd))) (vp_Si (fun z => z = nI (ct (ch T kc ko kv k) n))) 0 0 (fun _ => False) := by
  refine met_of RX1 rfl (by decide) (Nat.le_of_ble_eq_true rfl) (fun p e s m below meth cd0 ls E hr hlk _ hB hl => ?_)
  obtain ⟨hP, hK⟩ := hB
  have hl : lv_has ls 3 [(0, .ref (ad 0))] := hl
  refine lv_iconst (v := nI 0) E.1 E.2.1 dX1_countChosen_0 rfl ?_
  refine lv_istore_n (lv' := [(1, .int (nI 0)), (0, .ref (ad 0))]) E.1 E.2.1 dX1_countChosen_1 rfl hl (by decide) rfl (fun ls hl => ?_)
  refine lv_iconst (v := nI 0) E.1 E.2.1 dX1_countChosen_2 rfl ?_
  refine lv_istore_n (lv' := [(2, .int (nI 0)), (1, .int (nI 0)), (0, .ref (ad 0))]) E.1 E.2.1 dX1_countChosen_3 rfl hl (by decide) rfl (fun ls hl => ?_)
  refine w_lp1 (fun (r : Nat) => r ≤ n) (fun (r : Nat) => n - r) (fun (r : Nat) => [(2, .int (nI r)), (1, .int (nI (ct (ch T kc ko kv k) r))), (0, .ref (ad 0))]) 0 (Nat.zero_le _) (lv_sub hl [0, 1, 2] rfl) (fun r ls hI hl ih4 => ?_)
  have hl : lv_has ls 3 [(2, .int (nI r)), (1, .int (nI (ct (ch T kc ko kv k) r))), (0, .ref (ad 0))] := hl
  refine lv_iload_n E.1 E.2.1 dX1_countChosen_4 rfl (lv_at hl 0 rfl) ?_
  refine lv_aload_n E.1 E.2.1 dX1_countChosen_5 rfl (lv_at hl 2 rfl) ?_
  refine n_get E inR hK hP 0 rfl rfl 1 (by decide) flR_27 rfl rfl dX1_countChosen_6 ?_
  refine n_icmp_ge (tgt := 34) E dX1_countChosen_9 rfl (by omega) (by omega) (fun h9 => ?_) (fun h9 => ?_)
  · skip
    refine lv_iload_n E.1 E.2.1 dX1_countChosen_34 rfl (lv_at hl 1 rfl) ?_
    exact e_i E hr hlk (by rw [show n = r by omega]) dX1_countChosen_35
  · skip
    refine lv_iload_n E.1 E.2.1 dX1_countChosen_12 rfl (lv_at hl 1 rfl) ?_
    refine lv_aload_n E.1 E.2.1 dX1_countChosen_13 rfl (lv_at hl 2 rfl) ?_
    refine lv_iload_n E.1 E.2.1 dX1_countChosen_14 rfl (lv_at hl 0 rfl) ?_
    refine cV_i E (As := [.int (nI r)]) (rest := [.int (nI (ct (ch T kc ko kv k) r))]) (cR_isChosen l D ad ca T n kc ko kv k cd r hIK (by omega)) kR_41 hK hP 0 rfl rfl rfl rfl ⟨Nat.le_of_ble_eq_true rfl, Nat.le_of_ble_eq_true rfl⟩ rfl hl.1 rfl (Nat.le_of_ble_eq_true rfl) dX1_countChosen_15 ⟨Nat.zero_le _, Nat.zero_le _⟩ ?_
    refine b_if_eq (tgt := 25) E dX1_countChosen_18 rfl (fun h18 => ?_) (fun h18 => ?_)
    · skip
      refine lv_iconst (v := nI 0) E.1 E.2.1 dX1_countChosen_25 rfl ?_
      refine n_iadd E dX1_countChosen_26 ?_
      refine lv_istore_n (lv' := [(1, .int (nI (ct (ch T kc ko kv k) r + 0))), (2, .int (nI r)), (0, .ref (ad 0))]) E.1 E.2.1 dX1_countChosen_27 rfl hl (by decide) rfl (fun ls hl => ?_)
      refine lv_iinc (k := 1) (v := nI (r + 1)) (lv' := [(2, .int (nI (r + 1))), (1, .int (nI (ct (ch T kc ko kv k) r + 0))), (0, .ref (ad 0))]) E.1 E.2.1 dX1_countChosen_28 hl rfl (inc1 _) (by decide) rfl (fun ls hl => ?_)
      refine lv_goto (tgt := 4) E.1 E.2.1 dX1_countChosen_31 rfl ?_
      rw [← ct_f (p := (ch T kc ko kv k)) h18] at hl
      exact ih4 (r + 1) _ (by omega) (by omega) (lv_sub hl [0, 1, 2] rfl)
    · skip
      refine lv_iconst (v := nI 1) E.1 E.2.1 dX1_countChosen_21 rfl ?_
      refine lv_goto (tgt := 26) E.1 E.2.1 dX1_countChosen_22 rfl ?_
      refine n_iadd E dX1_countChosen_26 ?_
      refine lv_istore_n (lv' := [(1, .int (nI (ct (ch T kc ko kv k) r + 1))), (2, .int (nI r)), (0, .ref (ad 0))]) E.1 E.2.1 dX1_countChosen_27 rfl hl (by decide) rfl (fun ls hl => ?_)
      refine lv_iinc (k := 1) (v := nI (r + 1)) (lv' := [(2, .int (nI (r + 1))), (1, .int (nI (ct (ch T kc ko kv k) r + 1))), (0, .ref (ad 0))]) E.1 E.2.1 dX1_countChosen_28 hl rfl (inc1 _) (by decide) rfl (fun ls hl => ?_)
      refine lv_goto (tgt := 4) E.1 E.2.1 dX1_countChosen_31 rfl ?_
      rw [← ct_t (p := (ch T kc ko kv k)) h18] at hl
      exact ih4 (r + 1) _ (by omega) (by omega) (lv_sub hl [0, 1, 2] rfl)
set_option maxHeartbeats 4000000 in
set_option maxRecDepth 100000 in
theorem cR_chosen (l : Launch) (D : va_G) (ad : Nat → Nat) (ca : Nat → ClassId) (T : Nat → Nat → Int64) (n : Nat) (kc ko : Nat → Nat) (kv : Nat → Int64) (k cd : Nat)  (hN : inj ad 5) (hIK : iK kc ko k) (hn128 : n ≤ 128) : Met l yX1_chosen (wA yX1_chosen cX1_chosen 1 (some .int)) (rN 3) (va_Pc [.ref (ad 0)] (pW D c2 (tR ca) (wR ad ca T n kc ko kv k cd))) (qI (fun z (_ : Unit) => z = nI (ct (ch T kc ko kv k) n)) D c2 (fun _ => wR ad ca T n kc ko kv k 0) (fA ad 5)) 0 0 (fA ad 5) := by
  refine met_of RX1 rfl (by decide) (Nat.le_of_ble_eq_true rfl) (fun p e s m below meth cd0 ls E hr hlk _ hB hl => ?_)
  obtain ⟨hP, hK⟩ := hB
  have hl : lv_has ls 1 [(0, .ref (ad 0))] := hl
  have hS : va_S (fA ad 5) s.heap s.heap [] := va_S.rf
  refine lv_aload_n E.1 E.2.1 dX1_chosen_0 rfl (lv_at hl 0 rfl) ?_
  refine lv_iconst (v := nI 0) E.1 E.2.1 dX1_chosen_1 rfl ?_
  refine n_put E inR tyR1 tyR1_ok nmR1 hK hP (dW hN rfl) hS 0 rfl rfl 0 (by decide) flR_23 rfl rfl (tyR1_ok 0 (by decide)) (Nat.le_of_ble_eq_true rfl) dX1_chosen_2 (fun H locs hP hS => ?_)
  have hP : va_P D c2 (wR ad ca T n kc ko kv k 0) H := hP
  refine lv_aload_n E.1 E.2.1 dX1_chosen_5 rfl (lv_at hl 0 rfl) ?_
  refine cV_i E (As := []) (rest := []) (cR_countChosen l D ad ca T n kc ko kv k 0 hIK hn128) kR_44 hK hP 0 rfl rfl rfl rfl ⟨Nat.le_of_ble_eq_true rfl, Nat.le_of_ble_eq_true rfl⟩ rfl hl.1 rfl (Nat.le_of_ble_eq_true rfl) dX1_chosen_6 ⟨Nat.zero_le _, Nat.zero_le _⟩ ?_
  exact e_wi E hr hlk hS () rfl hP dX1_chosen_9
set_option maxHeartbeats 4000000 in
set_option maxRecDepth 100000 in
theorem cR_rows (l : Launch) (D : va_G) (ad : Nat → Nat) (ca : Nat → ClassId) (T : Nat → Nat → Int64) (n : Nat) (kc ko : Nat → Nat) (kv : Nat → Int64) (k cd : Nat)  (hN : inj ad 5) : Met l yX1_rows (wA yX1_rows cX1_rows 1 (some .int)) (rN 0) (va_Pc [.ref (ad 0)] (pW D c2 (tR ca) (wR ad ca T n kc ko kv k cd))) (qI (fun z (_ : Unit) => z = nI n) D c2 (fun _ => wR ad ca T n kc ko kv k 0) (fA ad 5)) 0 0 (fA ad 5) := by
  refine met_of RX1 rfl (by decide) (Nat.le_of_ble_eq_true rfl) (fun p e s m below meth cd0 ls E hr hlk _ hB hl => ?_)
  obtain ⟨hP, hK⟩ := hB
  have hl : lv_has ls 1 [(0, .ref (ad 0))] := hl
  have hS : va_S (fA ad 5) s.heap s.heap [] := va_S.rf
  refine lv_aload_n E.1 E.2.1 dX1_rows_0 rfl (lv_at hl 0 rfl) ?_
  refine lv_iconst (v := nI 0) E.1 E.2.1 dX1_rows_1 rfl ?_
  refine n_put E inR tyR1 tyR1_ok nmR1 hK hP (dW hN rfl) hS 0 rfl rfl 0 (by decide) flR_23 rfl rfl (tyR1_ok 0 (by decide)) (Nat.le_of_ble_eq_true rfl) dX1_rows_2 (fun H locs hP hS => ?_)
  have hP : va_P D c2 (wR ad ca T n kc ko kv k 0) H := hP
  refine lv_aload_n E.1 E.2.1 dX1_rows_5 rfl (lv_at hl 0 rfl) ?_
  refine n_get E inR hK hP 0 rfl rfl 1 (by decide) flR_27 rfl rfl dX1_rows_6 ?_
  exact e_wi E hr hlk hS () rfl hP dX1_rows_9
set_option maxHeartbeats 4000000 in
set_option maxRecDepth 100000 in
theorem cR_all (l : Launch) (D : va_G) (ad : Nat → Nat) (ca : Nat → ClassId) (T : Nat → Nat → Int64) (n : Nat) (kc ko : Nat → Nat) (kv : Nat → Int64) (k cd : Nat)  (hN : inj ad 5) : Met l yX1_all (wA yX1_all cX1_all 2 (some .int)) (rN 0) (va_Pc [.ref (ad 0)] (pW D c2 (tR ca) (wR ad ca T n kc ko kv k cd))) (qI (fun z (_ : Unit) => z = nI k) D c2 (fun _ => wR ad ca T n kc ko kv 0 0) (fA ad 5)) 0 0 (fA ad 5) := by
  refine met_of RX1 rfl (by decide) (Nat.le_of_ble_eq_true rfl) (fun p e s m below meth cd0 ls E hr hlk _ hB hl => ?_)
  obtain ⟨hP, hK⟩ := hB
  have hl : lv_has ls 2 [(0, .ref (ad 0))] := hl
  have hS : va_S (fA ad 5) s.heap s.heap [] := va_S.rf
  refine lv_aload_n E.1 E.2.1 dX1_all_0 rfl (lv_at hl 0 rfl) ?_
  refine lv_iconst (v := nI 0) E.1 E.2.1 dX1_all_1 rfl ?_
  refine n_put E inR tyR1 tyR1_ok nmR1 hK hP (dW hN rfl) hS 0 rfl rfl 0 (by decide) flR_23 rfl rfl (tyR1_ok 0 (by decide)) (Nat.le_of_ble_eq_true rfl) dX1_all_2 (fun H locs hP hS => ?_)
  have hP : va_P D c2 (wR ad ca T n kc ko kv k 0) H := hP
  refine lv_aload_n E.1 E.2.1 dX1_all_5 rfl (lv_at hl 0 rfl) ?_
  refine n_get E inR hK hP 0 rfl rfl 3 (by decide) flR_34 rfl rfl dX1_all_6 ?_
  refine lv_istore_n (lv' := [(1, .int (nI k)), (0, .ref (ad 0))]) E.1 E.2.1 dX1_all_9 rfl hl (by decide) rfl (fun ls hl => ?_)
  refine lv_aload_n E.1 E.2.1 dX1_all_10 rfl (lv_at hl 1 rfl) ?_
  refine lv_iconst (v := nI 0) E.1 E.2.1 dX1_all_11 rfl ?_
  refine n_put E inR tyR1 tyR1_ok nmR1 hK hP (dW hN rfl) hS 0 rfl rfl 3 (by decide) flR_34 rfl rfl (tyR1_ok 3 (by decide)) (Nat.le_of_ble_eq_true rfl) dX1_all_12 (fun H locs hP hS => ?_)
  have hP : va_P D c2 (wR ad ca T n kc ko kv 0 0) H := hP
  refine lv_iload_n E.1 E.2.1 dX1_all_15 rfl (lv_at hl 0 rfl) ?_
  exact e_wi E hr hlk hS () rfl hP dX1_all_16
set_option maxHeartbeats 4000000 in
set_option maxRecDepth 100000 in
theorem cR_append (l : Launch) (D : va_G) (ad : Nat → Nat) (ca : Nat → ClassId) (T : Nat → Nat → Int64) (n : Nat) (kc ko : Nat → Nat) (kv : Nat → Int64) (k cd : Nat) (a0 b0 c0 : Int32) (d0 : Int64) (hN : inj ad 5) (hn : n < 128) : Met l yX1_append (wA yX1_append cX1_append 6 (some .int)) (rN 0) (va_Pc [.ref (ad 0), .int a0, .int b0, .int c0, .long d0] (pW D c2 (tR ca) (wR ad ca T n kc ko kv k cd))) (qI (fun z (_ : Unit) => z = nI n) D c2 (fun _ => wR ad ca (apT T n a0 b0 c0 d0) (n + 1) kc ko kv k 0) (fA ad 5)) 0 0 (fA ad 5) := by
  refine met_of RX1 rfl (by decide) (Nat.le_of_ble_eq_true rfl) (fun p e s m below meth cd0 ls E hr hlk _ hB hl => ?_)
  obtain ⟨hP, hK⟩ := hB
  have hl : lv_has ls 6 [(0, .ref (ad 0)), (1, .int a0), (2, .int b0), (3, .int c0), (4, .long d0)] := hl
  have hS : va_S (fA ad 5) s.heap s.heap [] := va_S.rf
  refine lv_aload_n E.1 E.2.1 dX1_append_0 rfl (lv_at hl 0 rfl) ?_
  refine lv_aload_n E.1 E.2.1 dX1_append_1 rfl (lv_at hl 0 rfl) ?_
  refine n_get E inR hK hP 0 rfl rfl 1 (by decide) flR_27 rfl rfl dX1_append_2 ?_
  refine lv_sipush (v := nI 128) E.1 E.2.1 dX1_append_5 rfl ?_
  refine n_icmp_ne (tgt := 15) E dX1_append_8 rfl (by omega) (by omega) (fun h8 => ?_) (fun h8 => ?_)
  · skip
    refine lv_iconst (v := nI 0) E.1 E.2.1 dX1_append_15 rfl ?_
    refine n_put E inR tyR1 tyR1_ok nmR1 hK hP (dW hN rfl) hS 0 rfl rfl 0 (by decide) flR_23 rfl rfl (tyR1_ok 0 (by decide)) (Nat.le_of_ble_eq_true rfl) dX1_append_16 (fun H locs hP hS => ?_)
    have hP : va_P D c2 (wR ad ca T n kc ko kv k 0) H := hP
    refine lv_aload_n E.1 E.2.1 dX1_append_19 rfl (lv_at hl 0 rfl) ?_
    refine n_get E inR hK hP 0 rfl rfl 0 (by decide) flR_23 rfl rfl dX1_append_20 ?_
    refine n_if_le (tgt := 28) E dX1_append_23 rfl (by decide) (fun _ => ?_) (fun h => absurd h (by decide))
    refine lv_aload_n E.1 E.2.1 dX1_append_28 rfl (lv_at hl 0 rfl) ?_
    refine n_get E inR hK hP 0 rfl rfl 2 (by decide) flR_7 rfl rfl dX1_append_29 ?_
    refine lv_iconst (v := nI 4) E.1 E.2.1 dX1_append_32 rfl ?_
    refine lv_aload_n E.1 E.2.1 dX1_append_33 rfl (lv_at hl 0 rfl) ?_
    refine n_get E inR hK hP 0 rfl rfl 1 (by decide) flR_27 rfl rfl dX1_append_34 ?_
    refine n_imul E dX1_append_37 ?_
    refine lv_iload_n E.1 E.2.1 dX1_append_38 rfl (lv_at hl 1 rfl) ?_
    refine lv_i2l E.1 E.2.1 dX1_append_39 rfl ?_
    refine n_rast E hK hP (dW hN rfl) hS 1 0 rfl rfl n 0 (by omega) (by omega) (by omega) dX1_append_40 (fun H locs hP hS => ?_)
    have hP : va_P D c2 (wR ad ca (tS T n 0 (Int32.toInt64 a0)) n kc ko kv k 0) H := hP
    refine lv_aload_n E.1 E.2.1 dX1_append_41 rfl (lv_at hl 0 rfl) ?_
    refine n_get E inR hK hP 0 rfl rfl 2 (by decide) flR_7 rfl rfl dX1_append_42 ?_
    refine lv_iconst (v := nI 4) E.1 E.2.1 dX1_append_45 rfl ?_
    refine lv_aload_n E.1 E.2.1 dX1_append_46 rfl (lv_at hl 0 rfl) ?_
    refine n_get E inR hK hP 0 rfl rfl 1 (by decide) flR_27 rfl rfl dX1_append_47 ?_
    refine n_imul E dX1_append_50 ?_
    refine lv_iconst (v := nI 1) E.1 E.2.1 dX1_append_51 rfl ?_
    refine n_iadd E dX1_append_52 ?_
    refine lv_iload_n E.1 E.2.1 dX1_append_53 rfl (lv_at hl 2 rfl) ?_
    refine lv_i2l E.1 E.2.1 dX1_append_54 rfl ?_
    refine n_rast E hK hP (dW hN rfl) hS 1 0 rfl rfl n 1 (by omega) (by omega) (by omega) dX1_append_55 (fun H locs hP hS => ?_)
    have hP : va_P D c2 (wR ad ca (tS (tS T n 0 (Int32.toInt64 a0)) n 1 (Int32.toInt64 b0)) n kc ko kv k 0) H := hP
    refine lv_aload_n E.1 E.2.1 dX1_append_56 rfl (lv_at hl 0 rfl) ?_
    refine n_get E inR hK hP 0 rfl rfl 2 (by decide) flR_7 rfl rfl dX1_append_57 ?_
    refine lv_iconst (v := nI 4) E.1 E.2.1 dX1_append_60 rfl ?_
    refine lv_aload_n E.1 E.2.1 dX1_append_61 rfl (lv_at hl 0 rfl) ?_
    refine n_get E inR hK hP 0 rfl rfl 1 (by decide) flR_27 rfl rfl dX1_append_62 ?_
    refine n_imul E dX1_append_65 ?_
    refine lv_iconst (v := nI 2) E.1 E.2.1 dX1_append_66 rfl ?_
    refine n_iadd E dX1_append_67 ?_
    refine lv_iload_n E.1 E.2.1 dX1_append_68 rfl (lv_at hl 3 rfl) ?_
    refine lv_i2l E.1 E.2.1 dX1_append_69 rfl ?_
    refine n_rast E hK hP (dW hN rfl) hS 1 0 rfl rfl n 2 (by omega) (by omega) (by omega) dX1_append_70 (fun H locs hP hS => ?_)
    have hP : va_P D c2 (wR ad ca (tS (tS (tS T n 0 (Int32.toInt64 a0)) n 1 (Int32.toInt64 b0)) n 2 (Int32.toInt64 c0)) n kc ko kv k 0) H := hP
    refine lv_aload_n E.1 E.2.1 dX1_append_71 rfl (lv_at hl 0 rfl) ?_
    refine n_get E inR hK hP 0 rfl rfl 2 (by decide) flR_7 rfl rfl dX1_append_72 ?_
    refine lv_iconst (v := nI 4) E.1 E.2.1 dX1_append_75 rfl ?_
    refine lv_aload_n E.1 E.2.1 dX1_append_76 rfl (lv_at hl 0 rfl) ?_
    refine n_get E inR hK hP 0 rfl rfl 1 (by decide) flR_27 rfl rfl dX1_append_77 ?_
    refine n_imul E dX1_append_80 ?_
    refine lv_iconst (v := nI 3) E.1 E.2.1 dX1_append_81 rfl ?_
    refine n_iadd E dX1_append_82 ?_
    refine lv_lload E.1 E.2.1 dX1_append_83 (lv_at hl 4 rfl) ?_
    refine n_rast E hK hP (dW hN rfl) hS 1 0 rfl rfl n 3 (by omega) (by omega) (by omega) dX1_append_85 (fun H locs hP hS => ?_)
    have hP : va_P D c2 (wR ad ca (tS (tS (tS (tS T n 0 (Int32.toInt64 a0)) n 1 (Int32.toInt64 b0)) n 2 (Int32.toInt64 c0)) n 3 d0) n kc ko kv k 0) H := hP
    refine lv_aload_n E.1 E.2.1 dX1_append_86 rfl (lv_at hl 0 rfl) ?_
    refine lv_dup E.1 E.2.1 dX1_append_87 rfl ?_
    refine n_get E inR hK hP 0 rfl rfl 1 (by decide) flR_27 rfl rfl dX1_append_88 ?_
    refine lv_iconst (v := nI 1) E.1 E.2.1 dX1_append_91 rfl ?_
    refine n_iadd E dX1_append_92 ?_
    refine n_put E inR tyR1 tyR1_ok nmR1 hK hP (dW hN rfl) hS 0 rfl rfl 1 (by decide) flR_27 rfl rfl (tyR1_ok 1 (by decide)) (Nat.le_of_ble_eq_true rfl) dX1_append_93 (fun H locs hP hS => ?_)
    have hP : va_P D c2 (wR ad ca (tS (tS (tS (tS T n 0 (Int32.toInt64 a0)) n 1 (Int32.toInt64 b0)) n 2 (Int32.toInt64 c0)) n 3 d0) (n + 1) kc ko kv k 0) H := hP
    refine lv_aload_n E.1 E.2.1 dX1_append_96 rfl (lv_at hl 0 rfl) ?_
    refine n_get E inR hK hP 0 rfl rfl 1 (by decide) flR_27 rfl rfl dX1_append_97 ?_
    refine lv_iconst (v := nI 1) E.1 E.2.1 dX1_append_100 rfl ?_
    refine n_isub E (by omega) dX1_append_101 ?_
    exact e_wi E hr hlk hS () (congrArg nI (by omega)) hP dX1_append_102
  · skip
    exfalso; omega
set_option maxHeartbeats 4000000 in
set_option maxRecDepth 100000 in
theorem cR_append1 (l : Launch) (D : va_G) (ad : Nat → Nat) (ca : Nat → ClassId) (T : Nat → Nat → Int64) (n : Nat) (kc ko : Nat → Nat) (kv : Nat → Int64) (k cd : Nat) (a0 b0 c0 : Int32) (d0 : Int64) (hN : inj ad 5) (hn : n = 128) : Met l yX1_append (wA yX1_append cX1_append 6 (some .int)) (rN 0) (va_Pc [.ref (ad 0), .int a0, .int b0, .int c0, .long d0] (pW D c2 (tR ca) (wR ad ca T n kc ko kv k cd))) (qI (fun z (_ : Unit) => True) D c2 (fun _ => wR ad ca T n kc ko kv k 1) (fA ad 5)) 0 0 (fA ad 5) := by
  refine met_of RX1 rfl (by decide) (Nat.le_of_ble_eq_true rfl) (fun p e s m below meth cd0 ls E hr hlk _ hB hl => ?_)
  obtain ⟨hP, hK⟩ := hB
  have hl : lv_has ls 6 [(0, .ref (ad 0)), (1, .int a0), (2, .int b0), (3, .int c0), (4, .long d0)] := hl
  have hS : va_S (fA ad 5) s.heap s.heap [] := va_S.rf
  refine lv_aload_n E.1 E.2.1 dX1_append_0 rfl (lv_at hl 0 rfl) ?_
  refine lv_aload_n E.1 E.2.1 dX1_append_1 rfl (lv_at hl 0 rfl) ?_
  refine n_get E inR hK hP 0 rfl rfl 1 (by decide) flR_27 rfl rfl dX1_append_2 ?_
  refine lv_sipush (v := nI 128) E.1 E.2.1 dX1_append_5 rfl ?_
  refine n_icmp_ne (tgt := 15) E dX1_append_8 rfl (by omega) (by omega) (fun h8 => ?_) (fun h8 => ?_)
  · skip
    exfalso; omega
  · skip
    refine lv_iconst (v := nI 1) E.1 E.2.1 dX1_append_11 rfl ?_
    refine lv_goto (tgt := 16) E.1 E.2.1 dX1_append_12 rfl ?_
    refine n_put E inR tyR1 tyR1_ok nmR1 hK hP (dW hN rfl) hS 0 rfl rfl 0 (by decide) flR_23 rfl rfl (tyR1_ok 0 (by decide)) (Nat.le_of_ble_eq_true rfl) dX1_append_16 (fun H locs hP hS => ?_)
    have hP : va_P D c2 (wR ad ca T n kc ko kv k 1) H := hP
    refine lv_aload_n E.1 E.2.1 dX1_append_19 rfl (lv_at hl 0 rfl) ?_
    refine n_get E inR hK hP 0 rfl rfl 0 (by decide) flR_23 rfl rfl dX1_append_20 ?_
    refine n_if_le (tgt := 28) E dX1_append_23 rfl (by decide) (fun h => absurd h (by decide)) (fun _ => ?_)
    refine lv_iconst (v := nI 0) E.1 E.2.1 dX1_append_26 rfl ?_
    exact e_wi E hr hlk hS () trivial hP dX1_append_27
set_option maxHeartbeats 4000000 in
set_option maxRecDepth 100000 in
theorem cR_cell (l : Launch) (D : va_G) (ad : Nat → Nat) (ca : Nat → ClassId) (T : Nat → Nat → Int64) (n : Nat) (kc ko : Nat → Nat) (kv : Nat → Int64) (k cd : Nat) (r c : Nat) (hN : inj ad 5) (hn128 : n ≤ 128) (hr0 : r < n) (hc : c < 4) : Met l yX1_cell (wA yX1_cell cX1_cell 3 (some .long)) (rN 1) (va_Pc [.ref (ad 0), .int (nI r), .int (nI c)] (pW D c2 (tR ca) (wR ad ca T n kc ko kv k cd))) (qL (fun z (_ : Unit) => z = T r c) D c2 (fun _ => wR ad ca T n kc ko kv k 0) (fA ad 5)) 0 0 (fA ad 5) := by
  refine met_of RX1 rfl (by decide) (Nat.le_of_ble_eq_true rfl) (fun p e s m below meth cd0 ls E hr hlk _ hB hl => ?_)
  obtain ⟨hP, hK⟩ := hB
  have hl : lv_has ls 3 [(0, .ref (ad 0)), (1, .int (nI r)), (2, .int (nI c))] := hl
  have hS : va_S (fA ad 5) s.heap s.heap [] := va_S.rf
  refine lv_aload_n E.1 E.2.1 dX1_cell_0 rfl (lv_at hl 0 rfl) ?_
  refine lv_iload_n E.1 E.2.1 dX1_cell_1 rfl (lv_at hl 2 rfl) ?_
  refine cS_i E (As := [.int (nI c)]) (rest := [.ref (ad 0)]) (cR_isColumn l (nI c)) kR_30 rfl rfl ⟨Nat.le_of_ble_eq_true rfl, Nat.le_of_ble_eq_true rfl⟩ rfl hl.1 rfl (Nat.le_of_ble_eq_true rfl) dX1_cell_2 ⟨Nat.zero_le _, Nat.zero_le _⟩ ?_
  refine tpi (y := bI true) (congrArg bI (isC_n (by omega))) ?_
  refine b_if_ne (tgt := 12) E dX1_cell_5 rfl (fun _ => ?_) (fun h => Bool.noConfusion h)
  refine lv_iload_n E.1 E.2.1 dX1_cell_12 rfl (lv_at hl 1 rfl) ?_
  refine n_if_lt (tgt := 24) E dX1_cell_13 rfl (by omega) ?_
  refine lv_iload_n E.1 E.2.1 dX1_cell_16 rfl (lv_at hl 1 rfl) ?_
  refine lv_aload_n E.1 E.2.1 dX1_cell_17 rfl (lv_at hl 0 rfl) ?_
  refine n_get E inR hK hP 0 rfl rfl 1 (by decide) flR_27 rfl rfl dX1_cell_18 ?_
  refine n_icmp_lt (tgt := 28) E dX1_cell_21 rfl (by omega) (by omega) (fun h21 => ?_) (fun h21 => ?_)
  · skip
    refine lv_iconst (v := nI 0) E.1 E.2.1 dX1_cell_28 rfl ?_
    refine n_put E inR tyR1 tyR1_ok nmR1 hK hP (dW hN rfl) hS 0 rfl rfl 0 (by decide) flR_23 rfl rfl (tyR1_ok 0 (by decide)) (Nat.le_of_ble_eq_true rfl) dX1_cell_29 (fun H locs hP hS => ?_)
    have hP : va_P D c2 (wR ad ca T n kc ko kv k 0) H := hP
    refine lv_aload_n E.1 E.2.1 dX1_cell_32 rfl (lv_at hl 0 rfl) ?_
    refine n_get E inR hK hP 0 rfl rfl 0 (by decide) flR_23 rfl rfl dX1_cell_33 ?_
    refine n_if_ne (tgt := 52) E dX1_cell_36 rfl (by decide) (fun h => absurd h (by decide)) (fun _ => ?_)
    refine lv_aload_n E.1 E.2.1 dX1_cell_39 rfl (lv_at hl 0 rfl) ?_
    refine n_get E inR hK hP 0 rfl rfl 2 (by decide) flR_7 rfl rfl dX1_cell_40 ?_
    refine lv_iconst (v := nI 4) E.1 E.2.1 dX1_cell_43 rfl ?_
    refine lv_iload_n E.1 E.2.1 dX1_cell_44 rfl (lv_at hl 1 rfl) ?_
    refine n_imul E dX1_cell_45 ?_
    refine lv_iload_n E.1 E.2.1 dX1_cell_46 rfl (lv_at hl 2 rfl) ?_
    refine n_iadd E dX1_cell_47 ?_
    refine n_rald E hK hP 1 0 rfl rfl r c (by omega) (by omega) (by omega) dX1_cell_48 ?_
    refine lv_goto (tgt := 53) E.1 E.2.1 dX1_cell_49 rfl ?_
    exact e_wl E hr hlk hS () rfl hP dX1_cell_53
  · skip
    exfalso; omega
set_option maxHeartbeats 4000000 in
set_option maxRecDepth 100000 in
theorem cR_cell1 (l : Launch) (D : va_G) (ad : Nat → Nat) (ca : Nat → ClassId) (T : Nat → Nat → Int64) (n : Nat) (kc ko : Nat → Nat) (kv : Nat → Int64) (k cd : Nat) (y x : Int32) (hN : inj ad 5) (hx : isC x = false) : Met l yX1_cell (wA yX1_cell cX1_cell 3 (some .long)) (rN 1) (va_Pc [.ref (ad 0), .int y, .int x] (pW D c2 (tR ca) (wR ad ca T n kc ko kv k cd))) (qL (fun z (_ : Unit) => True) D c2 (fun _ => wR ad ca T n kc ko kv k 1) (fA ad 5)) 0 0 (fA ad 5) := by
  refine met_of RX1 rfl (by decide) (Nat.le_of_ble_eq_true rfl) (fun p e s m below meth cd0 ls E hr hlk _ hB hl => ?_)
  obtain ⟨hP, hK⟩ := hB
  have hl : lv_has ls 3 [(0, .ref (ad 0)), (1, .int y), (2, .int x)] := hl
  have hS : va_S (fA ad 5) s.heap s.heap [] := va_S.rf
  refine lv_aload_n E.1 E.2.1 dX1_cell_0 rfl (lv_at hl 0 rfl) ?_
  refine lv_iload_n E.1 E.2.1 dX1_cell_1 rfl (lv_at hl 2 rfl) ?_
  refine cS_i E (As := [.int x]) (rest := [.ref (ad 0)]) (cR_isColumn l x) kR_30 rfl rfl ⟨Nat.le_of_ble_eq_true rfl, Nat.le_of_ble_eq_true rfl⟩ rfl hl.1 rfl (Nat.le_of_ble_eq_true rfl) dX1_cell_2 ⟨Nat.zero_le _, Nat.zero_le _⟩ ?_
  refine tpi (y := bI false) (congrArg bI hx) ?_
  refine b_if_ne (tgt := 12) E dX1_cell_5 rfl (fun h => Bool.noConfusion h) (fun _ => ?_)
  refine lv_iconst (v := nI 1) E.1 E.2.1 dX1_cell_8 rfl ?_
  refine lv_goto (tgt := 29) E.1 E.2.1 dX1_cell_9 rfl ?_
  refine n_put E inR tyR1 tyR1_ok nmR1 hK hP (dW hN rfl) hS 0 rfl rfl 0 (by decide) flR_23 rfl rfl (tyR1_ok 0 (by decide)) (Nat.le_of_ble_eq_true rfl) dX1_cell_29 (fun H locs hP hS => ?_)
  have hP : va_P D c2 (wR ad ca T n kc ko kv k 1) H := hP
  refine lv_aload_n E.1 E.2.1 dX1_cell_32 rfl (lv_at hl 0 rfl) ?_
  refine n_get E inR hK hP 0 rfl rfl 0 (by decide) flR_23 rfl rfl dX1_cell_33 ?_
  refine n_if_ne (tgt := 52) E dX1_cell_36 rfl (by decide) (fun _ => ?_) (fun h => absurd h (by decide))
  refine lv_lconst (v := 0) E.1 E.2.1 dX1_cell_52 rfl ?_
  exact e_wl E hr hlk hS () trivial hP dX1_cell_53
set_option maxHeartbeats 4000000 in
set_option maxRecDepth 100000 in
theorem cR_cell2 (l : Launch) (D : va_G) (ad : Nat → Nat) (ca : Nat → ClassId) (T : Nat → Nat → Int64) (n : Nat) (kc ko : Nat → Nat) (kv : Nat → Int64) (k cd : Nat) (y : Int32) (c : Nat) (hN : inj ad 5) (hc : c < 4) (hy : y < 0 ∨ nI n ≤ y) : Met l yX1_cell (wA yX1_cell cX1_cell 3 (some .long)) (rN 1) (va_Pc [.ref (ad 0), .int y, .int (nI c)] (pW D c2 (tR ca) (wR ad ca T n kc ko kv k cd))) (qL (fun z (_ : Unit) => True) D c2 (fun _ => wR ad ca T n kc ko kv k 2) (fA ad 5)) 0 0 (fA ad 5) := by
  refine met_of RX1 rfl (by decide) (Nat.le_of_ble_eq_true rfl) (fun p e s m below meth cd0 ls E hr hlk _ hB hl => ?_)
  obtain ⟨hP, hK⟩ := hB
  have hl : lv_has ls 3 [(0, .ref (ad 0)), (1, .int y), (2, .int (nI c))] := hl
  have hS : va_S (fA ad 5) s.heap s.heap [] := va_S.rf
  refine lv_aload_n E.1 E.2.1 dX1_cell_0 rfl (lv_at hl 0 rfl) ?_
  refine lv_iload_n E.1 E.2.1 dX1_cell_1 rfl (lv_at hl 2 rfl) ?_
  refine cS_i E (As := [.int (nI c)]) (rest := [.ref (ad 0)]) (cR_isColumn l (nI c)) kR_30 rfl rfl ⟨Nat.le_of_ble_eq_true rfl, Nat.le_of_ble_eq_true rfl⟩ rfl hl.1 rfl (Nat.le_of_ble_eq_true rfl) dX1_cell_2 ⟨Nat.zero_le _, Nat.zero_le _⟩ ?_
  refine tpi (y := bI true) (congrArg bI (isC_n (by omega))) ?_
  refine b_if_ne (tgt := 12) E dX1_cell_5 rfl (fun _ => ?_) (fun h => Bool.noConfusion h)
  refine lv_iload_n E.1 E.2.1 dX1_cell_12 rfl (lv_at hl 1 rfl) ?_
  refine lv_if_lt (tgt := 24) E.1 E.2.1 dX1_cell_13 rfl (fun h13 => ?_) (fun h13 => ?_)
  · skip
    refine lv_iconst (v := nI 2) E.1 E.2.1 dX1_cell_24 rfl ?_
    refine lv_goto (tgt := 29) E.1 E.2.1 dX1_cell_25 rfl ?_
    refine n_put E inR tyR1 tyR1_ok nmR1 hK hP (dW hN rfl) hS 0 rfl rfl 0 (by decide) flR_23 rfl rfl (tyR1_ok 0 (by decide)) (Nat.le_of_ble_eq_true rfl) dX1_cell_29 (fun H locs hP hS => ?_)
    have hP : va_P D c2 (wR ad ca T n kc ko kv k 2) H := hP
    refine lv_aload_n E.1 E.2.1 dX1_cell_32 rfl (lv_at hl 0 rfl) ?_
    refine n_get E inR hK hP 0 rfl rfl 0 (by decide) flR_23 rfl rfl dX1_cell_33 ?_
    refine n_if_ne (tgt := 52) E dX1_cell_36 rfl (by decide) (fun _ => ?_) (fun h => absurd h (by decide))
    refine lv_lconst (v := 0) E.1 E.2.1 dX1_cell_52 rfl ?_
    exact e_wl E hr hlk hS () trivial hP dX1_cell_53
  · skip
    refine lv_iload_n E.1 E.2.1 dX1_cell_16 rfl (lv_at hl 1 rfl) ?_
    refine lv_aload_n E.1 E.2.1 dX1_cell_17 rfl (lv_at hl 0 rfl) ?_
    refine n_get E inR hK hP 0 rfl rfl 1 (by decide) flR_27 rfl rfl dX1_cell_18 ?_
    refine lv_icmp_lt (tgt := 28) E.1 E.2.1 dX1_cell_21 rfl (fun h21 => ?_) (fun h21 => ?_)
    · skip
      exact (bad_no hy h13 h21).elim
    · skip
      refine lv_iconst (v := nI 2) E.1 E.2.1 dX1_cell_24 rfl ?_
      refine lv_goto (tgt := 29) E.1 E.2.1 dX1_cell_25 rfl ?_
      refine n_put E inR tyR1 tyR1_ok nmR1 hK hP (dW hN rfl) hS 0 rfl rfl 0 (by decide) flR_23 rfl rfl (tyR1_ok 0 (by decide)) (Nat.le_of_ble_eq_true rfl) dX1_cell_29 (fun H locs hP hS => ?_)
      have hP : va_P D c2 (wR ad ca T n kc ko kv k 2) H := hP
      refine lv_aload_n E.1 E.2.1 dX1_cell_32 rfl (lv_at hl 0 rfl) ?_
      refine n_get E inR hK hP 0 rfl rfl 0 (by decide) flR_23 rfl rfl dX1_cell_33 ?_
      refine n_if_ne (tgt := 52) E dX1_cell_36 rfl (by decide) (fun _ => ?_) (fun h => absurd h (by decide))
      refine lv_lconst (v := 0) E.1 E.2.1 dX1_cell_52 rfl ?_
      exact e_wl E hr hlk hS () trivial hP dX1_cell_53
set_option maxHeartbeats 4000000 in
set_option maxRecDepth 100000 in
theorem cR_where (l : Launch) (D : va_G) (ad : Nat → Nat) (ca : Nat → ClassId) (T : Nat → Nat → Int64) (n : Nat) (kc ko : Nat → Nat) (kv : Nat → Int64) (k cd : Nat) (c o : Nat) (v : Int64) (hN : inj ad 5) (hk : k < 3) (hc : c < 4) (ho : o < 6) : Met l yX1_where (wA yX1_where cX1_where 5 (some .int)) (rN 1) (va_Pc [.ref (ad 0), .int (nI c), .int (nI o), .long v] (pW D c2 (tR ca) (wR ad ca T n kc ko kv k cd))) (qI (fun z (_ : Unit) => z = nI (k + 1)) D c2 (fun _ => wR ad ca T n (fS kc k c) (fS ko k o) (fS kv k v) (k + 1) 0) (fA ad 5)) 0 0 (fA ad 5) := by
  refine met_of RX1 rfl (by decide) (Nat.le_of_ble_eq_true rfl) (fun p e s m below meth cd0 ls E hr hlk _ hB hl => ?_)
  obtain ⟨hP, hK⟩ := hB
  have hl : lv_has ls 5 [(0, .ref (ad 0)), (1, .int (nI c)), (2, .int (nI o)), (3, .long v)] := hl
  have hS : va_S (fA ad 5) s.heap s.heap [] := va_S.rf
  refine lv_aload_n E.1 E.2.1 dX1_where_0 rfl (lv_at hl 0 rfl) ?_
  refine lv_iload_n E.1 E.2.1 dX1_where_1 rfl (lv_at hl 1 rfl) ?_
  refine cS_i E (As := [.int (nI c)]) (rest := [.ref (ad 0)]) (cR_isColumn l (nI c)) kR_30 rfl rfl ⟨Nat.le_of_ble_eq_true rfl, Nat.le_of_ble_eq_true rfl⟩ rfl hl.1 rfl (Nat.le_of_ble_eq_true rfl) dX1_where_2 ⟨Nat.zero_le _, Nat.zero_le _⟩ ?_
  refine tpi (y := bI true) (congrArg bI (isC_n (by omega))) ?_
  refine b_if_eq (tgt := 17) E dX1_where_5 rfl (fun h => Bool.noConfusion h) (fun _ => ?_)
  refine lv_iload_n E.1 E.2.1 dX1_where_8 rfl (lv_at hl 2 rfl) ?_
  refine n_if_lt (tgt := 17) E dX1_where_9 rfl (by omega) ?_
  refine lv_iload_n E.1 E.2.1 dX1_where_12 rfl (lv_at hl 2 rfl) ?_
  refine lv_iconst (v := nI 5) E.1 E.2.1 dX1_where_13 rfl ?_
  refine n_icmp_le (tgt := 21) E dX1_where_14 rfl (by omega) (by omega) (fun h14 => ?_) (fun h14 => ?_)
  · skip
    refine lv_aload_n E.1 E.2.1 dX1_where_21 rfl (lv_at hl 0 rfl) ?_
    refine n_get E inR hK hP 0 rfl rfl 3 (by decide) flR_34 rfl rfl dX1_where_22 ?_
    refine lv_iconst (v := nI 3) E.1 E.2.1 dX1_where_25 rfl ?_
    refine n_icmp_ne (tgt := 33) E dX1_where_26 rfl (by omega) (by omega) (fun h26 => ?_) (fun h26 => ?_)
    · skip
      refine lv_iconst (v := nI 0) E.1 E.2.1 dX1_where_33 rfl ?_
      refine n_put E inR tyR1 tyR1_ok nmR1 hK hP (dW hN rfl) hS 0 rfl rfl 0 (by decide) flR_23 rfl rfl (tyR1_ok 0 (by decide)) (Nat.le_of_ble_eq_true rfl) dX1_where_34 (fun H locs hP hS => ?_)
      have hP : va_P D c2 (wR ad ca T n kc ko kv k 0) H := hP
      refine lv_aload_n E.1 E.2.1 dX1_where_37 rfl (lv_at hl 0 rfl) ?_
      refine n_get E inR hK hP 0 rfl rfl 0 (by decide) flR_23 rfl rfl dX1_where_38 ?_
      refine n_if_le (tgt := 46) E dX1_where_41 rfl (by decide) (fun _ => ?_) (fun h => absurd h (by decide))
      refine lv_aload_n E.1 E.2.1 dX1_where_46 rfl (lv_at hl 0 rfl) ?_
      refine n_get E inR hK hP 0 rfl rfl 4 (by decide) flR_13 rfl rfl dX1_where_47 ?_
      refine lv_aload_n E.1 E.2.1 dX1_where_50 rfl (lv_at hl 0 rfl) ?_
      refine n_get E inR hK hP 0 rfl rfl 3 (by decide) flR_34 rfl rfl dX1_where_51 ?_
      refine lv_iload_n E.1 E.2.1 dX1_where_54 rfl (lv_at hl 1 rfl) ?_
      refine n_iast E hK hP (dW hN rfl) hS 2 1 rfl rfl (by decide) (by omega) dX1_where_55 (fun H locs hP hS => ?_)
      have hP : va_P D c2 (wR ad ca T n (fS kc k c) ko kv k 0) H := hP
      refine lv_aload_n E.1 E.2.1 dX1_where_56 rfl (lv_at hl 0 rfl) ?_
      refine n_get E inR hK hP 0 rfl rfl 5 (by decide) flR_17 rfl rfl dX1_where_57 ?_
      refine lv_aload_n E.1 E.2.1 dX1_where_60 rfl (lv_at hl 0 rfl) ?_
      refine n_get E inR hK hP 0 rfl rfl 3 (by decide) flR_34 rfl rfl dX1_where_61 ?_
      refine lv_iload_n E.1 E.2.1 dX1_where_64 rfl (lv_at hl 2 rfl) ?_
      refine n_iast E hK hP (dW hN rfl) hS 3 2 rfl rfl (by decide) (by omega) dX1_where_65 (fun H locs hP hS => ?_)
      have hP : va_P D c2 (wR ad ca T n (fS kc k c) (fS ko k o) kv k 0) H := hP
      refine lv_aload_n E.1 E.2.1 dX1_where_66 rfl (lv_at hl 0 rfl) ?_
      refine n_get E inR hK hP 0 rfl rfl 6 (by decide) flR_20 rfl rfl dX1_where_67 ?_
      refine lv_aload_n E.1 E.2.1 dX1_where_70 rfl (lv_at hl 0 rfl) ?_
      refine n_get E inR hK hP 0 rfl rfl 3 (by decide) flR_34 rfl rfl dX1_where_71 ?_
      refine lv_lload_n E.1 E.2.1 dX1_where_74 rfl (lv_at hl 3 rfl) ?_
      refine n_last E hK hP (dW hN rfl) hS 4 3 rfl rfl (by decide) (by omega) dX1_where_75 (fun H locs hP hS => ?_)
      have hP : va_P D c2 (wR ad ca T n (fS kc k c) (fS ko k o) (fS kv k v) k 0) H := hP
      refine lv_aload_n E.1 E.2.1 dX1_where_76 rfl (lv_at hl 0 rfl) ?_
      refine lv_dup E.1 E.2.1 dX1_where_77 rfl ?_
      refine n_get E inR hK hP 0 rfl rfl 3 (by decide) flR_34 rfl rfl dX1_where_78 ?_
      refine lv_iconst (v := nI 1) E.1 E.2.1 dX1_where_81 rfl ?_
      refine n_iadd E dX1_where_82 ?_
      refine n_put E inR tyR1 tyR1_ok nmR1 hK hP (dW hN rfl) hS 0 rfl rfl 3 (by decide) flR_34 rfl rfl (tyR1_ok 3 (by decide)) (Nat.le_of_ble_eq_true rfl) dX1_where_83 (fun H locs hP hS => ?_)
      have hP : va_P D c2 (wR ad ca T n (fS kc k c) (fS ko k o) (fS kv k v) (k + 1) 0) H := hP
      refine lv_aload_n E.1 E.2.1 dX1_where_86 rfl (lv_at hl 0 rfl) ?_
      refine n_get E inR hK hP 0 rfl rfl 3 (by decide) flR_34 rfl rfl dX1_where_87 ?_
      exact e_wi E hr hlk hS () rfl hP dX1_where_90
    · skip
      exfalso; omega
  · skip
    exfalso; omega
set_option maxHeartbeats 4000000 in
set_option maxRecDepth 100000 in
theorem cR_where1 (l : Launch) (D : va_G) (ad : Nat → Nat) (ca : Nat → ClassId) (T : Nat → Nat → Int64) (n : Nat) (kc ko : Nat → Nat) (kv : Nat → Int64) (k cd : Nat) (x y : Int32) (v : Int64) (hN : inj ad 5) (hx : isC x = false) : Met l yX1_where (wA yX1_where cX1_where 5 (some .int)) (rN 1) (va_Pc [.ref (ad 0), .int x, .int y, .long v] (pW D c2 (tR ca) (wR ad ca T n kc ko kv k cd))) (qI (fun z (_ : Unit) => True) D c2 (fun _ => wR ad ca T n kc ko kv k 1) (fA ad 5)) 0 0 (fA ad 5) := by
  refine met_of RX1 rfl (by decide) (Nat.le_of_ble_eq_true rfl) (fun p e s m below meth cd0 ls E hr hlk _ hB hl => ?_)
  obtain ⟨hP, hK⟩ := hB
  have hl : lv_has ls 5 [(0, .ref (ad 0)), (1, .int x), (2, .int y), (3, .long v)] := hl
  have hS : va_S (fA ad 5) s.heap s.heap [] := va_S.rf
  refine lv_aload_n E.1 E.2.1 dX1_where_0 rfl (lv_at hl 0 rfl) ?_
  refine lv_iload_n E.1 E.2.1 dX1_where_1 rfl (lv_at hl 1 rfl) ?_
  refine cS_i E (As := [.int x]) (rest := [.ref (ad 0)]) (cR_isColumn l x) kR_30 rfl rfl ⟨Nat.le_of_ble_eq_true rfl, Nat.le_of_ble_eq_true rfl⟩ rfl hl.1 rfl (Nat.le_of_ble_eq_true rfl) dX1_where_2 ⟨Nat.zero_le _, Nat.zero_le _⟩ ?_
  refine tpi (y := bI false) (congrArg bI hx) ?_
  refine b_if_eq (tgt := 17) E dX1_where_5 rfl (fun _ => ?_) (fun h => Bool.noConfusion h)
  refine lv_iconst (v := nI 1) E.1 E.2.1 dX1_where_17 rfl ?_
  refine lv_goto (tgt := 34) E.1 E.2.1 dX1_where_18 rfl ?_
  refine n_put E inR tyR1 tyR1_ok nmR1 hK hP (dW hN rfl) hS 0 rfl rfl 0 (by decide) flR_23 rfl rfl (tyR1_ok 0 (by decide)) (Nat.le_of_ble_eq_true rfl) dX1_where_34 (fun H locs hP hS => ?_)
  have hP : va_P D c2 (wR ad ca T n kc ko kv k 1) H := hP
  refine lv_aload_n E.1 E.2.1 dX1_where_37 rfl (lv_at hl 0 rfl) ?_
  refine n_get E inR hK hP 0 rfl rfl 0 (by decide) flR_23 rfl rfl dX1_where_38 ?_
  refine n_if_le (tgt := 46) E dX1_where_41 rfl (by decide) (fun h => absurd h (by decide)) (fun _ => ?_)
  refine lv_iconst (v := nI 0) E.1 E.2.1 dX1_where_44 rfl ?_
  exact e_wi E hr hlk hS () trivial hP dX1_where_45
set_option maxHeartbeats 4000000 in
set_option maxRecDepth 100000 in
theorem cR_where1o (l : Launch) (D : va_G) (ad : Nat → Nat) (ca : Nat → ClassId) (T : Nat → Nat → Int64) (n : Nat) (kc ko : Nat → Nat) (kv : Nat → Int64) (k cd : Nat) (c : Nat) (y : Int32) (v : Int64) (hN : inj ad 5) (hc : c < 4) (hy : y < 0 ∨ nI 5 < y) : Met l yX1_where (wA yX1_where cX1_where 5 (some .int)) (rN 1) (va_Pc [.ref (ad 0), .int (nI c), .int y, .long v] (pW D c2 (tR ca) (wR ad ca T n kc ko kv k cd))) (qI (fun z (_ : Unit) => True) D c2 (fun _ => wR ad ca T n kc ko kv k 1) (fA ad 5)) 0 0 (fA ad 5) := by
  refine met_of RX1 rfl (by decide) (Nat.le_of_ble_eq_true rfl) (fun p e s m below meth cd0 ls E hr hlk _ hB hl => ?_)
  obtain ⟨hP, hK⟩ := hB
  have hl : lv_has ls 5 [(0, .ref (ad 0)), (1, .int (nI c)), (2, .int y), (3, .long v)] := hl
  have hS : va_S (fA ad 5) s.heap s.heap [] := va_S.rf
  refine lv_aload_n E.1 E.2.1 dX1_where_0 rfl (lv_at hl 0 rfl) ?_
  refine lv_iload_n E.1 E.2.1 dX1_where_1 rfl (lv_at hl 1 rfl) ?_
  refine cS_i E (As := [.int (nI c)]) (rest := [.ref (ad 0)]) (cR_isColumn l (nI c)) kR_30 rfl rfl ⟨Nat.le_of_ble_eq_true rfl, Nat.le_of_ble_eq_true rfl⟩ rfl hl.1 rfl (Nat.le_of_ble_eq_true rfl) dX1_where_2 ⟨Nat.zero_le _, Nat.zero_le _⟩ ?_
  refine tpi (y := bI true) (congrArg bI (isC_n (by omega))) ?_
  refine b_if_eq (tgt := 17) E dX1_where_5 rfl (fun h => Bool.noConfusion h) (fun _ => ?_)
  refine lv_iload_n E.1 E.2.1 dX1_where_8 rfl (lv_at hl 2 rfl) ?_
  refine lv_if_lt (tgt := 17) E.1 E.2.1 dX1_where_9 rfl (fun h9 => ?_) (fun h9 => ?_)
  · skip
    refine lv_iconst (v := nI 1) E.1 E.2.1 dX1_where_17 rfl ?_
    refine lv_goto (tgt := 34) E.1 E.2.1 dX1_where_18 rfl ?_
    refine n_put E inR tyR1 tyR1_ok nmR1 hK hP (dW hN rfl) hS 0 rfl rfl 0 (by decide) flR_23 rfl rfl (tyR1_ok 0 (by decide)) (Nat.le_of_ble_eq_true rfl) dX1_where_34 (fun H locs hP hS => ?_)
    have hP : va_P D c2 (wR ad ca T n kc ko kv k 1) H := hP
    refine lv_aload_n E.1 E.2.1 dX1_where_37 rfl (lv_at hl 0 rfl) ?_
    refine n_get E inR hK hP 0 rfl rfl 0 (by decide) flR_23 rfl rfl dX1_where_38 ?_
    refine n_if_le (tgt := 46) E dX1_where_41 rfl (by decide) (fun h => absurd h (by decide)) (fun _ => ?_)
    refine lv_iconst (v := nI 0) E.1 E.2.1 dX1_where_44 rfl ?_
    exact e_wi E hr hlk hS () trivial hP dX1_where_45
  · skip
    refine lv_iload_n E.1 E.2.1 dX1_where_12 rfl (lv_at hl 2 rfl) ?_
    refine lv_iconst (v := nI 5) E.1 E.2.1 dX1_where_13 rfl ?_
    refine lv_icmp_le (tgt := 21) E.1 E.2.1 dX1_where_14 rfl (fun h14 => ?_) (fun h14 => ?_)
    · skip
      exact (bad_le hy h9 h14).elim
    · skip
      refine lv_iconst (v := nI 1) E.1 E.2.1 dX1_where_17 rfl ?_
      refine lv_goto (tgt := 34) E.1 E.2.1 dX1_where_18 rfl ?_
      refine n_put E inR tyR1 tyR1_ok nmR1 hK hP (dW hN rfl) hS 0 rfl rfl 0 (by decide) flR_23 rfl rfl (tyR1_ok 0 (by decide)) (Nat.le_of_ble_eq_true rfl) dX1_where_34 (fun H locs hP hS => ?_)
      have hP : va_P D c2 (wR ad ca T n kc ko kv k 1) H := hP
      refine lv_aload_n E.1 E.2.1 dX1_where_37 rfl (lv_at hl 0 rfl) ?_
      refine n_get E inR hK hP 0 rfl rfl 0 (by decide) flR_23 rfl rfl dX1_where_38 ?_
      refine n_if_le (tgt := 46) E dX1_where_41 rfl (by decide) (fun h => absurd h (by decide)) (fun _ => ?_)
      refine lv_iconst (v := nI 0) E.1 E.2.1 dX1_where_44 rfl ?_
      exact e_wi E hr hlk hS () trivial hP dX1_where_45
set_option maxHeartbeats 4000000 in
set_option maxRecDepth 100000 in
theorem cR_where2 (l : Launch) (D : va_G) (ad : Nat → Nat) (ca : Nat → ClassId) (T : Nat → Nat → Int64) (n : Nat) (kc ko : Nat → Nat) (kv : Nat → Int64) (k cd : Nat) (c o : Nat) (v : Int64) (hN : inj ad 5) (hk : k = 3) (hc : c < 4) (ho : o < 6) : Met l yX1_where (wA yX1_where cX1_where 5 (some .int)) (rN 1) (va_Pc [.ref (ad 0), .int (nI c), .int (nI o), .long v] (pW D c2 (tR ca) (wR ad ca T n kc ko kv k cd))) (qI (fun z (_ : Unit) => True) D c2 (fun _ => wR ad ca T n kc ko kv k 2) (fA ad 5)) 0 0 (fA ad 5) := by
  refine met_of RX1 rfl (by decide) (Nat.le_of_ble_eq_true rfl) (fun p e s m below meth cd0 ls E hr hlk _ hB hl => ?_)
  obtain ⟨hP, hK⟩ := hB
  have hl : lv_has ls 5 [(0, .ref (ad 0)), (1, .int (nI c)), (2, .int (nI o)), (3, .long v)] := hl
  have hS : va_S (fA ad 5) s.heap s.heap [] := va_S.rf
  refine lv_aload_n E.1 E.2.1 dX1_where_0 rfl (lv_at hl 0 rfl) ?_
  refine lv_iload_n E.1 E.2.1 dX1_where_1 rfl (lv_at hl 1 rfl) ?_
  refine cS_i E (As := [.int (nI c)]) (rest := [.ref (ad 0)]) (cR_isColumn l (nI c)) kR_30 rfl rfl ⟨Nat.le_of_ble_eq_true rfl, Nat.le_of_ble_eq_true rfl⟩ rfl hl.1 rfl (Nat.le_of_ble_eq_true rfl) dX1_where_2 ⟨Nat.zero_le _, Nat.zero_le _⟩ ?_
  refine tpi (y := bI true) (congrArg bI (isC_n (by omega))) ?_
  refine b_if_eq (tgt := 17) E dX1_where_5 rfl (fun h => Bool.noConfusion h) (fun _ => ?_)
  refine lv_iload_n E.1 E.2.1 dX1_where_8 rfl (lv_at hl 2 rfl) ?_
  refine n_if_lt (tgt := 17) E dX1_where_9 rfl (by omega) ?_
  refine lv_iload_n E.1 E.2.1 dX1_where_12 rfl (lv_at hl 2 rfl) ?_
  refine lv_iconst (v := nI 5) E.1 E.2.1 dX1_where_13 rfl ?_
  refine n_icmp_le (tgt := 21) E dX1_where_14 rfl (by omega) (by omega) (fun h14 => ?_) (fun h14 => ?_)
  · skip
    refine lv_aload_n E.1 E.2.1 dX1_where_21 rfl (lv_at hl 0 rfl) ?_
    refine n_get E inR hK hP 0 rfl rfl 3 (by decide) flR_34 rfl rfl dX1_where_22 ?_
    refine lv_iconst (v := nI 3) E.1 E.2.1 dX1_where_25 rfl ?_
    refine n_icmp_ne (tgt := 33) E dX1_where_26 rfl (by omega) (by omega) (fun h26 => ?_) (fun h26 => ?_)
    · skip
      exfalso; omega
    · skip
      refine lv_iconst (v := nI 2) E.1 E.2.1 dX1_where_29 rfl ?_
      refine lv_goto (tgt := 34) E.1 E.2.1 dX1_where_30 rfl ?_
      refine n_put E inR tyR1 tyR1_ok nmR1 hK hP (dW hN rfl) hS 0 rfl rfl 0 (by decide) flR_23 rfl rfl (tyR1_ok 0 (by decide)) (Nat.le_of_ble_eq_true rfl) dX1_where_34 (fun H locs hP hS => ?_)
      have hP : va_P D c2 (wR ad ca T n kc ko kv k 2) H := hP
      refine lv_aload_n E.1 E.2.1 dX1_where_37 rfl (lv_at hl 0 rfl) ?_
      refine n_get E inR hK hP 0 rfl rfl 0 (by decide) flR_23 rfl rfl dX1_where_38 ?_
      refine n_if_le (tgt := 46) E dX1_where_41 rfl (by decide) (fun h => absurd h (by decide)) (fun _ => ?_)
      refine lv_iconst (v := nI 0) E.1 E.2.1 dX1_where_44 rfl ?_
      exact e_wi E hr hlk hS () trivial hP dX1_where_45
  · skip
    exfalso; omega
set_option maxHeartbeats 4000000 in
set_option maxRecDepth 100000 in
theorem cR_row (l : Launch) (D : va_G) (ad : Nat → Nat) (ca : Nat → ClassId) (T : Nat → Nat → Int64) (n : Nat) (kc ko : Nat → Nat) (kv : Nat → Int64) (k cd : Nat) (r : Nat) (hN : inj ad 5) (hIK : iK kc ko k) (hn128 : n ≤ 128) (hr0 : r < n) (hPr : (ch T kc ko kv k) r = true) : Met l yX1_row (wA yX1_row cX1_row 4 (some .int)) (rN 2) (va_Pc [.ref (ad 0), .int (nI (ct (ch T kc ko kv k) r))] (pW D c2 (tR ca) (wR ad ca T n kc ko kv k cd))) (qI (fun z (_ : Unit) => z = nI r) D c2 (fun _ => wR ad ca T n kc ko kv k 0) (fA ad 5)) 0 0 (fA ad 5) := by
  refine met_of RX1 rfl (by decide) (Nat.le_of_ble_eq_true rfl) (fun p e s m below meth cd0 ls E hr hlk _ hB hl => ?_)
  obtain ⟨hP, hK⟩ := hB
  have hl : lv_has ls 4 [(0, .ref (ad 0)), (1, .int (nI (ct (ch T kc ko kv k) r)))] := hl
  have hS : va_S (fA ad 5) s.heap s.heap [] := va_S.rf
  refine lv_iconst (v := nI 0) E.1 E.2.1 dX1_row_0 rfl ?_
  refine lv_istore_n (lv' := [(2, .int (nI 0)), (0, .ref (ad 0)), (1, .int (nI (ct (ch T kc ko kv k) r)))]) E.1 E.2.1 dX1_row_1 rfl hl (by decide) rfl (fun ls hl => ?_)
  refine lv_iconst (v := nI 0) E.1 E.2.1 dX1_row_2 rfl ?_
  refine lv_istore_n (lv' := [(3, .int (nI 0)), (2, .int (nI 0)), (0, .ref (ad 0)), (1, .int (nI (ct (ch T kc ko kv k) r)))]) E.1 E.2.1 dX1_row_3 rfl hl (by decide) rfl (fun ls hl => ?_)
  refine w_lp1 (fun (t : Nat) => t ≤ r) (fun (t : Nat) => n - t) (fun (t : Nat) => [(3, .int (nI t)), (2, .int (nI (ct (ch T kc ko kv k) t))), (0, .ref (ad 0)), (1, .int (nI (ct (ch T kc ko kv k) r)))]) 0 (Nat.zero_le _) (lv_sub hl [0, 1, 2, 3] rfl) (fun t ls hI hl ih4 => ?_)
  have hl : lv_has ls 4 [(3, .int (nI t)), (2, .int (nI (ct (ch T kc ko kv k) t))), (0, .ref (ad 0)), (1, .int (nI (ct (ch T kc ko kv k) r)))] := hl
  refine lv_iload_n E.1 E.2.1 dX1_row_4 rfl (lv_at hl 0 rfl) ?_
  refine lv_aload_n E.1 E.2.1 dX1_row_5 rfl (lv_at hl 2 rfl) ?_
  refine n_get E inR hK hP 0 rfl rfl 1 (by decide) flR_27 rfl rfl dX1_row_6 ?_
  refine n_icmp_ge (tgt := 41) E dX1_row_9 rfl (by omega) (by omega) (fun h9 => ?_) (fun h9 => ?_)
  · skip
    exfalso; omega
  · skip
    refine lv_aload_n E.1 E.2.1 dX1_row_12 rfl (lv_at hl 2 rfl) ?_
    refine lv_iload_n E.1 E.2.1 dX1_row_13 rfl (lv_at hl 0 rfl) ?_
    refine cV_i E (As := [.int (nI t)]) (rest := []) (cR_isChosen l D ad ca T n kc ko kv k cd t hIK (by omega)) kR_41 hK hP 0 rfl rfl rfl rfl ⟨Nat.le_of_ble_eq_true rfl, Nat.le_of_ble_eq_true rfl⟩ rfl hl.1 rfl (Nat.le_of_ble_eq_true rfl) dX1_row_14 ⟨Nat.zero_le _, Nat.zero_le _⟩ ?_
    have hct := ct_le (ch T kc ko kv k) t
    have hct2 := ct_le (ch T kc ko kv k) r
    refine b_if_eq (tgt := 35) E dX1_row_17 rfl (fun h17 => ?_) (fun h17 => ?_)
    · skip
      refine lv_iinc (k := 0) (v := nI (t + 1)) (lv' := [(3, .int (nI (t + 1))), (2, .int (nI (ct (ch T kc ko kv k) t))), (0, .ref (ad 0)), (1, .int (nI (ct (ch T kc ko kv k) r)))]) E.1 E.2.1 dX1_row_35 hl rfl (inc1 _) (by decide) rfl (fun ls hl => ?_)
      refine lv_goto (tgt := 4) E.1 E.2.1 dX1_row_38 rfl ?_
      rw [← ct_f (p := (ch T kc ko kv k)) h17] at hl
      exact ih4 (t + 1) _ (lt_of_ne_le hI (fun e => by rw [e, hPr] at h17; cases h17)) (by omega) (lv_sub hl [0, 1, 2, 3] rfl)
    · skip
      refine lv_iload_n E.1 E.2.1 dX1_row_20 rfl (lv_at hl 1 rfl) ?_
      refine lv_iload_n E.1 E.2.1 dX1_row_21 rfl (lv_at hl 3 rfl) ?_
      refine n_icmp_ne (tgt := 32) E dX1_row_22 rfl (by omega) (by omega) (fun h22 => ?_) (fun h22 => ?_)
      · skip
        refine lv_iinc (k := 1) (v := nI (ct (ch T kc ko kv k) t + 1)) (lv' := [(2, .int (nI (ct (ch T kc ko kv k) t + 1))), (3, .int (nI t)), (0, .ref (ad 0)), (1, .int (nI (ct (ch T kc ko kv k) r)))]) E.1 E.2.1 dX1_row_32 hl rfl (inc1 _) (by decide) rfl (fun ls hl => ?_)
        refine lv_iinc (k := 1) (v := nI (t + 1)) (lv' := [(3, .int (nI (t + 1))), (2, .int (nI (ct (ch T kc ko kv k) t + 1))), (0, .ref (ad 0)), (1, .int (nI (ct (ch T kc ko kv k) r)))]) E.1 E.2.1 dX1_row_35 hl rfl (inc1 _) (by decide) rfl (fun ls hl => ?_)
        refine lv_goto (tgt := 4) E.1 E.2.1 dX1_row_38 rfl ?_
        rw [← ct_t (p := (ch T kc ko kv k)) h17] at hl
        exact ih4 (t + 1) _ (lt_of_ne_le hI (fun e => h22 (by rw [e]))) (by omega) (lv_sub hl [0, 1, 2, 3] rfl)
      · skip
        refine lv_aload_n E.1 E.2.1 dX1_row_25 rfl (lv_at hl 2 rfl) ?_
        refine lv_iconst (v := nI 0) E.1 E.2.1 dX1_row_26 rfl ?_
        refine n_put E inR tyR1 tyR1_ok nmR1 hK hP (dW hN rfl) hS 0 rfl rfl 0 (by decide) flR_23 rfl rfl (tyR1_ok 0 (by decide)) (Nat.le_of_ble_eq_true rfl) dX1_row_27 (fun H locs hP hS => ?_)
        have hP : va_P D c2 (wR ad ca T n kc ko kv k 0) H := hP
        refine lv_iload_n E.1 E.2.1 dX1_row_30 rfl (lv_at hl 0 rfl) ?_
        exact e_wi E hr hlk hS () (congrArg nI (ct_inj h17 hPr h22)) hP dX1_row_31
set_option maxHeartbeats 4000000 in
set_option maxRecDepth 100000 in
theorem cR_row1 (l : Launch) (D : va_G) (ad : Nat → Nat) (ca : Nat → ClassId) (T : Nat → Nat → Int64) (n : Nat) (kc ko : Nat → Nat) (kv : Nat → Int64) (k cd : Nat) (x : Int32) (hN : inj ad 5) (hIK : iK kc ko k) (hn128 : n ≤ 128) (hx : ∀ t, t < n → (ch T kc ko kv k) t = true → nI (ct (ch T kc ko kv k) t) ≠ x) : Met l yX1_row (wA yX1_row cX1_row 4 (some .int)) (rN 2) (va_Pc [.ref (ad 0), .int x] (pW D c2 (tR ca) (wR ad ca T n kc ko kv k cd))) (qI (fun z (_ : Unit) => True) D c2 (fun _ => wR ad ca T n kc ko kv k 1) (fA ad 5)) 0 0 (fA ad 5) := by
  refine met_of RX1 rfl (by decide) (Nat.le_of_ble_eq_true rfl) (fun p e s m below meth cd0 ls E hr hlk _ hB hl => ?_)
  obtain ⟨hP, hK⟩ := hB
  have hl : lv_has ls 4 [(0, .ref (ad 0)), (1, .int x)] := hl
  have hS : va_S (fA ad 5) s.heap s.heap [] := va_S.rf
  refine lv_iconst (v := nI 0) E.1 E.2.1 dX1_row_0 rfl ?_
  refine lv_istore_n (lv' := [(2, .int (nI 0)), (0, .ref (ad 0)), (1, .int x)]) E.1 E.2.1 dX1_row_1 rfl hl (by decide) rfl (fun ls hl => ?_)
  refine lv_iconst (v := nI 0) E.1 E.2.1 dX1_row_2 rfl ?_
  refine lv_istore_n (lv' := [(3, .int (nI 0)), (2, .int (nI 0)), (0, .ref (ad 0)), (1, .int x)]) E.1 E.2.1 dX1_row_3 rfl hl (by decide) rfl (fun ls hl => ?_)
  refine w_lp1 (fun (t : Nat) => t ≤ n) (fun (t : Nat) => n - t) (fun (t : Nat) => [(3, .int (nI t)), (2, .int (nI (ct (ch T kc ko kv k) t))), (0, .ref (ad 0)), (1, .int x)]) 0 (Nat.zero_le _) (lv_sub hl [0, 1, 2, 3] rfl) (fun t ls hI hl ih4 => ?_)
  have hl : lv_has ls 4 [(3, .int (nI t)), (2, .int (nI (ct (ch T kc ko kv k) t))), (0, .ref (ad 0)), (1, .int x)] := hl
  refine lv_iload_n E.1 E.2.1 dX1_row_4 rfl (lv_at hl 0 rfl) ?_
  refine lv_aload_n E.1 E.2.1 dX1_row_5 rfl (lv_at hl 2 rfl) ?_
  refine n_get E inR hK hP 0 rfl rfl 1 (by decide) flR_27 rfl rfl dX1_row_6 ?_
  refine n_icmp_ge (tgt := 41) E dX1_row_9 rfl (by omega) (by omega) (fun h9 => ?_) (fun h9 => ?_)
  · skip
    refine lv_aload_n E.1 E.2.1 dX1_row_41 rfl (lv_at hl 2 rfl) ?_
    refine lv_iconst (v := nI 1) E.1 E.2.1 dX1_row_42 rfl ?_
    refine n_put E inR tyR1 tyR1_ok nmR1 hK hP (dW hN rfl) hS 0 rfl rfl 0 (by decide) flR_23 rfl rfl (tyR1_ok 0 (by decide)) (Nat.le_of_ble_eq_true rfl) dX1_row_43 (fun H locs hP hS => ?_)
    have hP : va_P D c2 (wR ad ca T n kc ko kv k 1) H := hP
    refine lv_iconst (v := nI 0) E.1 E.2.1 dX1_row_46 rfl ?_
    exact e_wi E hr hlk hS () trivial hP dX1_row_47
  · skip
    refine lv_aload_n E.1 E.2.1 dX1_row_12 rfl (lv_at hl 2 rfl) ?_
    refine lv_iload_n E.1 E.2.1 dX1_row_13 rfl (lv_at hl 0 rfl) ?_
    refine cV_i E (As := [.int (nI t)]) (rest := []) (cR_isChosen l D ad ca T n kc ko kv k cd t hIK (by omega)) kR_41 hK hP 0 rfl rfl rfl rfl ⟨Nat.le_of_ble_eq_true rfl, Nat.le_of_ble_eq_true rfl⟩ rfl hl.1 rfl (Nat.le_of_ble_eq_true rfl) dX1_row_14 ⟨Nat.zero_le _, Nat.zero_le _⟩ ?_
    refine b_if_eq (tgt := 35) E dX1_row_17 rfl (fun h17 => ?_) (fun h17 => ?_)
    · skip
      refine lv_iinc (k := 0) (v := nI (t + 1)) (lv' := [(3, .int (nI (t + 1))), (2, .int (nI (ct (ch T kc ko kv k) t))), (0, .ref (ad 0)), (1, .int x)]) E.1 E.2.1 dX1_row_35 hl rfl (inc1 _) (by decide) rfl (fun ls hl => ?_)
      refine lv_goto (tgt := 4) E.1 E.2.1 dX1_row_38 rfl ?_
      rw [← ct_f (p := (ch T kc ko kv k)) h17] at hl
      exact ih4 (t + 1) _ (by omega) (by omega) (lv_sub hl [0, 1, 2, 3] rfl)
    · skip
      refine lv_iload_n E.1 E.2.1 dX1_row_20 rfl (lv_at hl 1 rfl) ?_
      refine lv_iload_n E.1 E.2.1 dX1_row_21 rfl (lv_at hl 3 rfl) ?_
      refine lv_icmp_ne (tgt := 32) E.1 E.2.1 dX1_row_22 rfl (fun h22 => ?_) (fun h22 => ?_)
      · skip
        refine lv_iinc (k := 1) (v := nI (ct (ch T kc ko kv k) t + 1)) (lv' := [(2, .int (nI (ct (ch T kc ko kv k) t + 1))), (3, .int (nI t)), (0, .ref (ad 0)), (1, .int x)]) E.1 E.2.1 dX1_row_32 hl rfl (inc1 _) (by decide) rfl (fun ls hl => ?_)
        refine lv_iinc (k := 1) (v := nI (t + 1)) (lv' := [(3, .int (nI (t + 1))), (2, .int (nI (ct (ch T kc ko kv k) t + 1))), (0, .ref (ad 0)), (1, .int x)]) E.1 E.2.1 dX1_row_35 hl rfl (inc1 _) (by decide) rfl (fun ls hl => ?_)
        refine lv_goto (tgt := 4) E.1 E.2.1 dX1_row_38 rfl ?_
        rw [← ct_t (p := (ch T kc ko kv k)) h17] at hl
        exact ih4 (t + 1) _ (by omega) (by omega) (lv_sub hl [0, 1, 2, 3] rfl)
      · skip
        exact (hx t (by omega) h17 h22).elim
set_option maxHeartbeats 4000000 in
set_option maxRecDepth 100000 in
theorem cR_least (l : Launch) (D : va_G) (ad : Nat → Nat) (ca : Nat → ClassId) (T : Nat → Nat → Int64) (n : Nat) (kc ko : Nat → Nat) (kv : Nat → Int64) (k cd : Nat) (b c : Nat) (hb0 : b < 8) (hc0 : c < 4) : Met l yX1_least (wA yX1_least cX1_least 6 (some .long)) (rN 0) (va_Pc [.ref (ad 0), .int (nI b), .int (nI c)] (pW D c2 (tR ca) (wR ad ca T n kc ko kv k cd))) (vp_Sl (fun z => z = mn (xb T b c) 15)) 0 0 (fun _ => False) := by
  refine met_of RX1 rfl (by decide) (Nat.le_of_ble_eq_true rfl) (fun p e s m below meth cd0 ls E hr hlk _ hB hl => ?_)
  obtain ⟨hP, hK⟩ := hB
  have hl : lv_has ls 6 [(0, .ref (ad 0)), (1, .int (nI b)), (2, .int (nI c))] := hl
  refine lv_aload_n E.1 E.2.1 dX1_least_0 rfl (lv_at hl 0 rfl) ?_
  refine n_get E inR hK hP 0 rfl rfl 2 (by decide) flR_7 rfl rfl dX1_least_1 ?_
  refine lv_bipush (v := nI 64) E.1 E.2.1 dX1_least_4 rfl ?_
  refine lv_iload_n E.1 E.2.1 dX1_least_6 rfl (lv_at hl 1 rfl) ?_
  refine n_imul E dX1_least_7 ?_
  refine lv_iload_n E.1 E.2.1 dX1_least_8 rfl (lv_at hl 2 rfl) ?_
  refine n_iadd E dX1_least_9 ?_
  refine n_rald E hK hP 1 0 rfl rfl (16 * b) c (by omega) (by omega) (by omega) dX1_least_10 ?_
  refine lv_lstore_n (lv' := [(3, .long (T (16 * b) c)), (0, .ref (ad 0)), (1, .int (nI b)), (2, .int (nI c))]) E.1 E.2.1 dX1_least_11 rfl hl (by decide) rfl (fun ls hl => ?_)
  refine lv_bipush (v := nI 16) E.1 E.2.1 dX1_least_12 rfl ?_
  refine lv_iload_n E.1 E.2.1 dX1_least_14 rfl (lv_at hl 2 rfl) ?_
  refine n_imul E dX1_least_15 ?_
  refine lv_istore (lv' := [(5, .int (nI (16 * b))), (3, .long (T (16 * b) c)), (0, .ref (ad 0)), (1, .int (nI b)), (2, .int (nI c))]) E.1 E.2.1 dX1_least_16 hl (by decide) rfl (fun ls hl => ?_)
  refine w_lp1 (fun (j : Nat) => j ≤ 16) (fun (j : Nat) => 16 - j) (fun (j : Nat) => [(5, .int (nI (16 * b + j))), (3, .long (mn (xb T b c) (j - 1))), (0, .ref (ad 0)), (1, .int (nI b)), (2, .int (nI c))]) 0 (Nat.zero_le _) (lv_sub hl [0, 1, 2, 3, 4] rfl) (fun j ls hI hl ih18 => ?_)
  have hl : lv_has ls 6 [(5, .int (nI (16 * b + j))), (3, .long (mn (xb T b c) (j - 1))), (0, .ref (ad 0)), (1, .int (nI b)), (2, .int (nI c))] := hl
  refine lv_iload E.1 E.2.1 dX1_least_18 (lv_at hl 0 rfl) ?_
  refine lv_bipush (v := nI 16) E.1 E.2.1 dX1_least_20 rfl ?_
  refine lv_iload_n E.1 E.2.1 dX1_least_22 rfl (lv_at hl 3 rfl) ?_
  refine n_imul E dX1_least_23 ?_
  refine lv_bipush (v := nI 16) E.1 E.2.1 dX1_least_24 rfl ?_
  refine n_iadd E dX1_least_26 ?_
  refine n_icmp_ge (tgt := 68) E dX1_least_27 rfl (by omega) (by omega) (fun h27 => ?_) (fun h27 => ?_)
  · skip
    refine lv_lload_n E.1 E.2.1 dX1_least_68 rfl (lv_at hl 1 rfl) ?_
    exact e_l E hr hlk (by rw [show j = 16 by omega]) dX1_least_69
  · skip
    refine lv_aload_n E.1 E.2.1 dX1_least_30 rfl (lv_at hl 2 rfl) ?_
    refine n_get E inR hK hP 0 rfl rfl 2 (by decide) flR_7 rfl rfl dX1_least_31 ?_
    refine lv_iconst (v := nI 4) E.1 E.2.1 dX1_least_34 rfl ?_
    refine lv_iload E.1 E.2.1 dX1_least_35 (lv_at hl 0 rfl) ?_
    refine n_imul E dX1_least_37 ?_
    refine lv_iload_n E.1 E.2.1 dX1_least_38 rfl (lv_at hl 4 rfl) ?_
    refine n_iadd E dX1_least_39 ?_
    refine n_rald E hK hP 1 0 rfl rfl (16 * b + j) c (by omega) (by omega) (by omega) dX1_least_40 ?_
    refine lv_lload_n E.1 E.2.1 dX1_least_41 rfl (lv_at hl 1 rfl) ?_
    refine l_if_ge (tgt := 60) E dX1_least_42 dX1_least_43 rfl (fun h42 => ?_) (fun h42 => ?_)
    · skip
      refine lv_lload_n E.1 E.2.1 dX1_least_60 rfl (lv_at hl 1 rfl) ?_
      refine tpl (y := mn (xb T b c) j) (mnj_f h42) ?_
      refine lv_lstore_n (lv' := [(3, .long (mn (xb T b c) j)), (5, .int (nI (16 * b + j))), (0, .ref (ad 0)), (1, .int (nI b)), (2, .int (nI c))]) E.1 E.2.1 dX1_least_61 rfl hl (by decide) rfl (fun ls hl => ?_)
      refine lv_iinc (k := 1) (v := nI (16 * b + j + 1)) (lv' := [(5, .int (nI (16 * b + j + 1))), (3, .long (mn (xb T b c) j)), (0, .ref (ad 0)), (1, .int (nI b)), (2, .int (nI c))]) E.1 E.2.1 dX1_least_62 hl rfl (inc1 _) (by decide) rfl (fun ls hl => ?_)
      refine lv_goto (tgt := 18) E.1 E.2.1 dX1_least_65 rfl ?_
      exact ih18 (j + 1) _ (by omega) (by omega) (lv_sub hl [0, 1, 2, 3, 4] rfl)
    · skip
      refine lv_aload_n E.1 E.2.1 dX1_least_46 rfl (lv_at hl 2 rfl) ?_
      refine n_get E inR hK hP 0 rfl rfl 2 (by decide) flR_7 rfl rfl dX1_least_47 ?_
      refine lv_iconst (v := nI 4) E.1 E.2.1 dX1_least_50 rfl ?_
      refine lv_iload E.1 E.2.1 dX1_least_51 (lv_at hl 0 rfl) ?_
      refine n_imul E dX1_least_53 ?_
      refine lv_iload_n E.1 E.2.1 dX1_least_54 rfl (lv_at hl 4 rfl) ?_
      refine n_iadd E dX1_least_55 ?_
      refine n_rald E hK hP 1 0 rfl rfl (16 * b + j) c (by omega) (by omega) (by omega) dX1_least_56 ?_
      refine lv_goto (tgt := 61) E.1 E.2.1 dX1_least_57 rfl ?_
      refine tpl (y := mn (xb T b c) j) (mnj_t h42) ?_
      refine lv_lstore_n (lv' := [(3, .long (mn (xb T b c) j)), (5, .int (nI (16 * b + j))), (0, .ref (ad 0)), (1, .int (nI b)), (2, .int (nI c))]) E.1 E.2.1 dX1_least_61 rfl hl (by decide) rfl (fun ls hl => ?_)
      refine lv_iinc (k := 1) (v := nI (16 * b + j + 1)) (lv' := [(5, .int (nI (16 * b + j + 1))), (3, .long (mn (xb T b c) j)), (0, .ref (ad 0)), (1, .int (nI b)), (2, .int (nI c))]) E.1 E.2.1 dX1_least_62 hl rfl (inc1 _) (by decide) rfl (fun ls hl => ?_)
      refine lv_goto (tgt := 18) E.1 E.2.1 dX1_least_65 rfl ?_
      exact ih18 (j + 1) _ (by omega) (by omega) (lv_sub hl [0, 1, 2, 3, 4] rfl)
set_option maxHeartbeats 4000000 in
set_option maxRecDepth 100000 in
theorem cR_greatest (l : Launch) (D : va_G) (ad : Nat → Nat) (ca : Nat → ClassId) (T : Nat → Nat → Int64) (n : Nat) (kc ko : Nat → Nat) (kv : Nat → Int64) (k cd : Nat) (b c : Nat) (hb0 : b < 8) (hc0 : c < 4) : Met l yX1_greatest (wA yX1_greatest cX1_greatest 6 (some .long)) (rN 0) (va_Pc [.ref (ad 0), .int (nI b), .int (nI c)] (pW D c2 (tR ca) (wR ad ca T n kc ko kv k cd))) (vp_Sl (fun z => z = mx (xb T b c) 15)) 0 0 (fun _ => False) := by
  refine met_of RX1 rfl (by decide) (Nat.le_of_ble_eq_true rfl) (fun p e s m below meth cd0 ls E hr hlk _ hB hl => ?_)
  obtain ⟨hP, hK⟩ := hB
  have hl : lv_has ls 6 [(0, .ref (ad 0)), (1, .int (nI b)), (2, .int (nI c))] := hl
  refine lv_aload_n E.1 E.2.1 dX1_greatest_0 rfl (lv_at hl 0 rfl) ?_
  refine n_get E inR hK hP 0 rfl rfl 2 (by decide) flR_7 rfl rfl dX1_greatest_1 ?_
  refine lv_bipush (v := nI 64) E.1 E.2.1 dX1_greatest_4 rfl ?_
  refine lv_iload_n E.1 E.2.1 dX1_greatest_6 rfl (lv_at hl 1 rfl) ?_
  refine n_imul E dX1_greatest_7 ?_
  refine lv_iload_n E.1 E.2.1 dX1_greatest_8 rfl (lv_at hl 2 rfl) ?_
  refine n_iadd E dX1_greatest_9 ?_
  refine n_rald E hK hP 1 0 rfl rfl (16 * b) c (by omega) (by omega) (by omega) dX1_greatest_10 ?_
  refine lv_lstore_n (lv' := [(3, .long (T (16 * b) c)), (0, .ref (ad 0)), (1, .int (nI b)), (2, .int (nI c))]) E.1 E.2.1 dX1_greatest_11 rfl hl (by decide) rfl (fun ls hl => ?_)
  refine lv_bipush (v := nI 16) E.1 E.2.1 dX1_greatest_12 rfl ?_
  refine lv_iload_n E.1 E.2.1 dX1_greatest_14 rfl (lv_at hl 2 rfl) ?_
  refine n_imul E dX1_greatest_15 ?_
  refine lv_istore (lv' := [(5, .int (nI (16 * b))), (3, .long (T (16 * b) c)), (0, .ref (ad 0)), (1, .int (nI b)), (2, .int (nI c))]) E.1 E.2.1 dX1_greatest_16 hl (by decide) rfl (fun ls hl => ?_)
  refine w_lp1 (fun (j : Nat) => j ≤ 16) (fun (j : Nat) => 16 - j) (fun (j : Nat) => [(5, .int (nI (16 * b + j))), (3, .long (mx (xb T b c) (j - 1))), (0, .ref (ad 0)), (1, .int (nI b)), (2, .int (nI c))]) 0 (Nat.zero_le _) (lv_sub hl [0, 1, 2, 3, 4] rfl) (fun j ls hI hl ih18 => ?_)
  have hl : lv_has ls 6 [(5, .int (nI (16 * b + j))), (3, .long (mx (xb T b c) (j - 1))), (0, .ref (ad 0)), (1, .int (nI b)), (2, .int (nI c))] := hl
  refine lv_iload E.1 E.2.1 dX1_greatest_18 (lv_at hl 0 rfl) ?_
  refine lv_bipush (v := nI 16) E.1 E.2.1 dX1_greatest_20 rfl ?_
  refine lv_iload_n E.1 E.2.1 dX1_greatest_22 rfl (lv_at hl 3 rfl) ?_
  refine n_imul E dX1_greatest_23 ?_
  refine lv_bipush (v := nI 16) E.1 E.2.1 dX1_greatest_24 rfl ?_
  refine n_iadd E dX1_greatest_26 ?_
  refine n_icmp_ge (tgt := 68) E dX1_greatest_27 rfl (by omega) (by omega) (fun h27 => ?_) (fun h27 => ?_)
  · skip
    refine lv_lload_n E.1 E.2.1 dX1_greatest_68 rfl (lv_at hl 1 rfl) ?_
    exact e_l E hr hlk (by rw [show j = 16 by omega]) dX1_greatest_69
  · skip
    refine lv_aload_n E.1 E.2.1 dX1_greatest_30 rfl (lv_at hl 2 rfl) ?_
    refine n_get E inR hK hP 0 rfl rfl 2 (by decide) flR_7 rfl rfl dX1_greatest_31 ?_
    refine lv_iconst (v := nI 4) E.1 E.2.1 dX1_greatest_34 rfl ?_
    refine lv_iload E.1 E.2.1 dX1_greatest_35 (lv_at hl 0 rfl) ?_
    refine n_imul E dX1_greatest_37 ?_
    refine lv_iload_n E.1 E.2.1 dX1_greatest_38 rfl (lv_at hl 4 rfl) ?_
    refine n_iadd E dX1_greatest_39 ?_
    refine n_rald E hK hP 1 0 rfl rfl (16 * b + j) c (by omega) (by omega) (by omega) dX1_greatest_40 ?_
    refine lv_lload_n E.1 E.2.1 dX1_greatest_41 rfl (lv_at hl 1 rfl) ?_
    refine l_if_le (tgt := 60) E dX1_greatest_42 dX1_greatest_43 rfl (fun h42 => ?_) (fun h42 => ?_)
    · skip
      refine lv_lload_n E.1 E.2.1 dX1_greatest_60 rfl (lv_at hl 1 rfl) ?_
      refine tpl (y := mx (xb T b c) j) (mxj_f h42) ?_
      refine lv_lstore_n (lv' := [(3, .long (mx (xb T b c) j)), (5, .int (nI (16 * b + j))), (0, .ref (ad 0)), (1, .int (nI b)), (2, .int (nI c))]) E.1 E.2.1 dX1_greatest_61 rfl hl (by decide) rfl (fun ls hl => ?_)
      refine lv_iinc (k := 1) (v := nI (16 * b + j + 1)) (lv' := [(5, .int (nI (16 * b + j + 1))), (3, .long (mx (xb T b c) j)), (0, .ref (ad 0)), (1, .int (nI b)), (2, .int (nI c))]) E.1 E.2.1 dX1_greatest_62 hl rfl (inc1 _) (by decide) rfl (fun ls hl => ?_)
      refine lv_goto (tgt := 18) E.1 E.2.1 dX1_greatest_65 rfl ?_
      exact ih18 (j + 1) _ (by omega) (by omega) (lv_sub hl [0, 1, 2, 3, 4] rfl)
    · skip
      refine lv_aload_n E.1 E.2.1 dX1_greatest_46 rfl (lv_at hl 2 rfl) ?_
      refine n_get E inR hK hP 0 rfl rfl 2 (by decide) flR_7 rfl rfl dX1_greatest_47 ?_
      refine lv_iconst (v := nI 4) E.1 E.2.1 dX1_greatest_50 rfl ?_
      refine lv_iload E.1 E.2.1 dX1_greatest_51 (lv_at hl 0 rfl) ?_
      refine n_imul E dX1_greatest_53 ?_
      refine lv_iload_n E.1 E.2.1 dX1_greatest_54 rfl (lv_at hl 4 rfl) ?_
      refine n_iadd E dX1_greatest_55 ?_
      refine n_rald E hK hP 1 0 rfl rfl (16 * b + j) c (by omega) (by omega) (by omega) dX1_greatest_56 ?_
      refine lv_goto (tgt := 61) E.1 E.2.1 dX1_greatest_57 rfl ?_
      refine tpl (y := mx (xb T b c) j) (mxj_t h42) ?_
      refine lv_lstore_n (lv' := [(3, .long (mx (xb T b c) j)), (5, .int (nI (16 * b + j))), (0, .ref (ad 0)), (1, .int (nI b)), (2, .int (nI c))]) E.1 E.2.1 dX1_greatest_61 rfl hl (by decide) rfl (fun ls hl => ?_)
      refine lv_iinc (k := 1) (v := nI (16 * b + j + 1)) (lv' := [(5, .int (nI (16 * b + j + 1))), (3, .long (mx (xb T b c) j)), (0, .ref (ad 0)), (1, .int (nI b)), (2, .int (nI c))]) E.1 E.2.1 dX1_greatest_62 hl rfl (inc1 _) (by decide) rfl (fun ls hl => ?_)
      refine lv_goto (tgt := 18) E.1 E.2.1 dX1_greatest_65 rfl ?_
      exact ih18 (j + 1) _ (by omega) (by omega) (lv_sub hl [0, 1, 2, 3, 4] rfl)
set_option maxHeartbeats 4000000 in
set_option maxRecDepth 100000 in
theorem cR_could (l : Launch) (o : Nat) (lo hi v : Int64) (ho : o < 6) : Met l yX1_could (wA yX1_could cX1_could 7 (some .boolean)) (rN 1) (va_Pc [.int (nI o), .long lo, .long hi, .long v] (fun _ => True)) (vp_Si (fun z => z = bI (cR o lo hi v))) 0 0 (fun _ => False) := by
  refine met_of RX1 rfl (by decide) (Nat.le_of_ble_eq_true rfl) (fun p e s m below meth cd0 ls E hr hlk _ hB hl => ?_)
  have hl : lv_has ls 7 [(0, .int (nI o)), (1, .long lo), (3, .long hi), (5, .long v)] := hl
  refine lv_iload_n E.1 E.2.1 dX1_could_0 rfl (lv_at hl 0 rfl) ?_
  refine lv_iconst (v := nI 2) E.1 E.2.1 dX1_could_1 rfl ?_
  refine n_icmp_ne (tgt := 25) E dX1_could_2 rfl (by omega) (by omega) (fun h2 => ?_) (fun h2 => ?_)
  · skip
    refine lv_iload_n E.1 E.2.1 dX1_could_25 rfl (lv_at hl 0 rfl) ?_
    refine lv_lload_n E.1 E.2.1 dX1_could_26 rfl (lv_at hl 1 rfl) ?_
    refine lv_lload E.1 E.2.1 dX1_could_27 (lv_at hl 3 rfl) ?_
    refine cS_i E (As := [.int (nI o), .long lo, .long v]) (rest := []) (cR_holds l o lo v ho) kR_37 rfl rfl ⟨Nat.le_of_ble_eq_true rfl, Nat.le_of_ble_eq_true rfl⟩ rfl hl.1 rfl (Nat.le_of_ble_eq_true rfl) dX1_could_29 ⟨Nat.zero_le _, Nat.zero_le _⟩ ?_
    refine b_if_ne (tgt := 45) E dX1_could_32 rfl (fun h32 => ?_) (fun h32 => ?_)
    · skip
      refine lv_iconst (v := nI 1) E.1 E.2.1 dX1_could_45 rfl ?_
      refine lv_goto (tgt := 50) E.1 E.2.1 dX1_could_46 rfl ?_
      exact e_z E hr hlk (show _ = _ from congrArg bI (show true = _ from by simp [cR, h2, h32])) dX1_could_50
    · skip
      refine lv_iload_n E.1 E.2.1 dX1_could_35 rfl (lv_at hl 0 rfl) ?_
      refine lv_lload_n E.1 E.2.1 dX1_could_36 rfl (lv_at hl 2 rfl) ?_
      refine lv_lload E.1 E.2.1 dX1_could_37 (lv_at hl 3 rfl) ?_
      refine cS_i E (As := [.int (nI o), .long hi, .long v]) (rest := []) (cR_holds l o hi v ho) kR_37 rfl rfl ⟨Nat.le_of_ble_eq_true rfl, Nat.le_of_ble_eq_true rfl⟩ rfl hl.1 rfl (Nat.le_of_ble_eq_true rfl) dX1_could_39 ⟨Nat.zero_le _, Nat.zero_le _⟩ ?_
      refine b_if_eq (tgt := 49) E dX1_could_42 rfl (fun h42 => ?_) (fun h42 => ?_)
      · skip
        refine lv_iconst (v := nI 0) E.1 E.2.1 dX1_could_49 rfl ?_
        exact e_z E hr hlk (show _ = _ from congrArg bI (show false = _ from by simp [cR, h2, h32, h42])) dX1_could_50
      · skip
        refine lv_iconst (v := nI 1) E.1 E.2.1 dX1_could_45 rfl ?_
        refine lv_goto (tgt := 50) E.1 E.2.1 dX1_could_46 rfl ?_
        exact e_z E hr hlk (show _ = _ from congrArg bI (show true = _ from by simp [cR, h2, h32, h42])) dX1_could_50
  · skip
    refine lv_lload_n E.1 E.2.1 dX1_could_5 rfl (lv_at hl 1 rfl) ?_
    refine lv_lload E.1 E.2.1 dX1_could_6 (lv_at hl 3 rfl) ?_
    refine l_if_gt (tgt := 23) E dX1_could_8 dX1_could_9 rfl (fun h8 => ?_) (fun h8 => ?_)
    · skip
      refine lv_iconst (v := nI 0) E.1 E.2.1 dX1_could_23 rfl ?_
      exact e_z E hr hlk (show _ = _ from congrArg bI (show false = _ from by simp [cR, h2, h8])) dX1_could_24
    · skip
      refine lv_lload E.1 E.2.1 dX1_could_12 (lv_at hl 3 rfl) ?_
      refine lv_lload_n E.1 E.2.1 dX1_could_14 rfl (lv_at hl 2 rfl) ?_
      refine l_if_gt (tgt := 23) E dX1_could_15 dX1_could_16 rfl (fun h15 => ?_) (fun h15 => ?_)
      · skip
        refine lv_iconst (v := nI 0) E.1 E.2.1 dX1_could_23 rfl ?_
        exact e_z E hr hlk (show _ = _ from congrArg bI (show false = _ from by simp [cR, h2, h8, h15])) dX1_could_24
      · skip
        refine lv_iconst (v := nI 1) E.1 E.2.1 dX1_could_19 rfl ?_
        refine lv_goto (tgt := 24) E.1 E.2.1 dX1_could_20 rfl ?_
        exact e_z E hr hlk (show _ = _ from congrArg bI (show true = _ from by simp [cR, h2, h8, h15])) dX1_could_24
set_option maxHeartbeats 4000000 in
set_option maxRecDepth 100000 in
theorem cR_blocks (l : Launch) (D : va_G) (ad : Nat → Nat) (ca : Nat → ClassId) (T : Nat → Nat → Int64) (n : Nat) (kc ko : Nat → Nat) (kv : Nat → Int64) (k cd : Nat)  (hN : inj ad 5) (hIK : iK kc ko k) (hn128 : n ≤ 128) : Met l yX1_blocks (wA yX1_blocks cX1_blocks 9 (some .int)) (rN 2) (va_Pc [.ref (ad 0)] (pW D c2 (tR ca) (wR ad ca T n kc ko kv k cd))) (qI (fun z (_ : Unit) => z = nI (ct (rbk T n kc ko kv k) ((n + 15) / 16))) D c2 (fun _ => wR ad ca T n kc ko kv k 0) (fA ad 5)) 0 0 (fA ad 5) := by
  refine met_of RX1 rfl (by decide) (Nat.le_of_ble_eq_true rfl) (fun p e s m below meth cd0 ls E hr hlk _ hB hl => ?_)
  obtain ⟨hP, hK⟩ := hB
  have hl : lv_has ls 9 [(0, .ref (ad 0))] := hl
  have hS : va_S (fA ad 5) s.heap s.heap [] := va_S.rf
  obtain ⟨hk, hkc, hko⟩ := id hIK
  refine lv_aload_n E.1 E.2.1 dX1_blocks_0 rfl (lv_at hl 0 rfl) ?_
  refine lv_iconst (v := nI 0) E.1 E.2.1 dX1_blocks_1 rfl ?_
  refine n_put E inR tyR1 tyR1_ok nmR1 hK hP (dW hN rfl) hS 0 rfl rfl 0 (by decide) flR_23 rfl rfl (tyR1_ok 0 (by decide)) (Nat.le_of_ble_eq_true rfl) dX1_blocks_2 (fun H locs hP hS => ?_)
  have hP : va_P D c2 (wR ad ca T n kc ko kv k 0) H := hP
  refine lv_iconst (v := nI 0) E.1 E.2.1 dX1_blocks_5 rfl ?_
  refine lv_istore_n (lv' := [(1, .int (nI 0)), (0, .ref (ad 0))]) E.1 E.2.1 dX1_blocks_6 rfl hl (by decide) rfl (fun ls hl => ?_)
  refine lv_iconst (v := nI 0) E.1 E.2.1 dX1_blocks_7 rfl ?_
  refine lv_istore_n (lv' := [(2, .int (nI 0)), (1, .int (nI 0)), (0, .ref (ad 0))]) E.1 E.2.1 dX1_blocks_8 rfl hl (by decide) rfl (fun ls hl => ?_)
  refine w_lp1 (fun (b : Nat) => b ≤ (n + 15) / 16) (fun (b : Nat) => (n + 15) / 16 - b) (fun (b : Nat) => [(2, .int (nI b)), (1, .int (nI (ct (rbk T n kc ko kv k) b))), (0, .ref (ad 0))]) 0 (Nat.zero_le _) (lv_sub hl [0, 1, 2] rfl) (fun b ls hI hl ih9 => ?_)
  have hl : lv_has ls 9 [(2, .int (nI b)), (1, .int (nI (ct (rbk T n kc ko kv k) b))), (0, .ref (ad 0))] := hl
  refine lv_bipush (v := nI 16) E.1 E.2.1 dX1_blocks_9 rfl ?_
  refine lv_iload_n E.1 E.2.1 dX1_blocks_11 rfl (lv_at hl 0 rfl) ?_
  refine n_imul E dX1_blocks_12 ?_
  refine lv_aload_n E.1 E.2.1 dX1_blocks_13 rfl (lv_at hl 2 rfl) ?_
  refine n_get E inR hK hP 0 rfl rfl 1 (by decide) flR_27 rfl rfl dX1_blocks_14 ?_
  refine n_icmp_ge (tgt := 134) E dX1_blocks_17 rfl (by omega) (by omega) (fun h17 => ?_) (fun h17 => ?_)
  · skip
    refine lv_iload_n E.1 E.2.1 dX1_blocks_134 rfl (lv_at hl 1 rfl) ?_
    exact e_wi E hr hlk hS () (by rw [show (n + 15) / 16 = b by omega]) hP dX1_blocks_135
  · skip
    refine lv_iconst (v := nI 1) E.1 E.2.1 dX1_blocks_20 rfl ?_
    refine lv_istore_n (lv' := [(3, .int (nI 1)), (2, .int (nI b)), (1, .int (nI (ct (rbk T n kc ko kv k) b))), (0, .ref (ad 0))]) E.1 E.2.1 dX1_blocks_21 rfl hl (by decide) rfl (fun ls hl => ?_)
    refine lv_iconst (v := nI 0) E.1 E.2.1 dX1_blocks_22 rfl ?_
    refine lv_istore (lv' := [(4, .int (nI 0)), (3, .int (nI 1)), (2, .int (nI b)), (1, .int (nI (ct (rbk T n kc ko kv k) b))), (0, .ref (ad 0))]) E.1 E.2.1 dX1_blocks_23 hl (by decide) rfl (fun ls hl => ?_)
    refine w_lp1 (fun (j : Nat) => j ≤ k ∧ (16 * b + 16 ≤ n ∨ j = 0)) (fun (j : Nat) => k - j) (fun (j : Nat) => [(4, .int (nI j)), (3, .int (bI (al (fun i => cR (ko i) (mn (xb T b (kc i)) 15) (mx (xb T b (kc i)) 15) (kv i)) j))), (2, .int (nI b)), (1, .int (nI (ct (rbk T n kc ko kv k) b))), (0, .ref (ad 0))]) 0 (⟨Nat.zero_le _, Or.inr rfl⟩) (lv_sub hl [0, 1, 2, 3, 4] rfl) (fun j ls hI hl ih25 => ?_)
    have hl : lv_has ls 9 [(4, .int (nI j)), (3, .int (bI (al (fun i => cR (ko i) (mn (xb T b (kc i)) 15) (mx (xb T b (kc i)) 15) (kv i)) j))), (2, .int (nI b)), (1, .int (nI (ct (rbk T n kc ko kv k) b))), (0, .ref (ad 0))] := hl
    obtain ⟨hj1, hj2⟩ := hI
    refine lv_iload E.1 E.2.1 dX1_blocks_25 (lv_at hl 0 rfl) ?_
    refine lv_aload_n E.1 E.2.1 dX1_blocks_27 rfl (lv_at hl 4 rfl) ?_
    refine n_get E inR hK hP 0 rfl rfl 3 (by decide) flR_34 rfl rfl dX1_blocks_28 ?_
    refine n_icmp_ge (tgt := 116) E dX1_blocks_31 rfl (by omega) (by omega) (fun h31 => ?_) (fun h31 => ?_)
    · skip
      have e9 : al (fun i => cR (ko i) (mn (xb T b (kc i)) 15) (mx (xb T b (kc i)) 15) (kv i)) j = rbk T n kc ko kv k b := rbk_full hj2 (by omega)
      rw [e9] at hl
      refine lv_iload_n E.1 E.2.1 dX1_blocks_116 rfl (lv_at hl 3 rfl) ?_
      refine lv_iload_n E.1 E.2.1 dX1_blocks_117 rfl (lv_at hl 1 rfl) ?_
      refine b_if_eq (tgt := 125) E dX1_blocks_118 rfl (fun h118 => ?_) (fun h118 => ?_)
      · skip
        refine lv_iconst (v := nI 0) E.1 E.2.1 dX1_blocks_125 rfl ?_
        refine n_iadd E dX1_blocks_126 ?_
        refine lv_istore_n (lv' := [(1, .int (nI (ct (rbk T n kc ko kv k) b + 0))), (4, .int (nI j)), (3, .int (bI (rbk T n kc ko kv k b))), (2, .int (nI b)), (0, .ref (ad 0))]) E.1 E.2.1 dX1_blocks_127 rfl hl (by decide) rfl (fun ls hl => ?_)
        refine lv_iinc (k := 3) (v := nI (b + 1)) (lv' := [(2, .int (nI (b + 1))), (1, .int (nI (ct (rbk T n kc ko kv k) b + 0))), (4, .int (nI j)), (3, .int (bI (rbk T n kc ko kv k b))), (0, .ref (ad 0))]) E.1 E.2.1 dX1_blocks_128 hl rfl (inc1 _) (by decide) rfl (fun ls hl => ?_)
        refine lv_goto (tgt := 9) E.1 E.2.1 dX1_blocks_131 rfl ?_
        rw [← ct_f (p := (rbk T n kc ko kv k)) h118] at hl
        exact ih9 (b + 1) _ (by omega) (by omega) (lv_sub hl [0, 1, 4] rfl)
      · skip
        refine lv_iconst (v := nI 1) E.1 E.2.1 dX1_blocks_121 rfl ?_
        refine lv_goto (tgt := 126) E.1 E.2.1 dX1_blocks_122 rfl ?_
        refine n_iadd E dX1_blocks_126 ?_
        refine lv_istore_n (lv' := [(1, .int (nI (ct (rbk T n kc ko kv k) b + 1))), (4, .int (nI j)), (3, .int (bI (rbk T n kc ko kv k b))), (2, .int (nI b)), (0, .ref (ad 0))]) E.1 E.2.1 dX1_blocks_127 rfl hl (by decide) rfl (fun ls hl => ?_)
        refine lv_iinc (k := 3) (v := nI (b + 1)) (lv' := [(2, .int (nI (b + 1))), (1, .int (nI (ct (rbk T n kc ko kv k) b + 1))), (4, .int (nI j)), (3, .int (bI (rbk T n kc ko kv k b))), (0, .ref (ad 0))]) E.1 E.2.1 dX1_blocks_128 hl rfl (inc1 _) (by decide) rfl (fun ls hl => ?_)
        refine lv_goto (tgt := 9) E.1 E.2.1 dX1_blocks_131 rfl ?_
        rw [← ct_t (p := (rbk T n kc ko kv k)) h118] at hl
        exact ih9 (b + 1) _ (by omega) (by omega) (lv_sub hl [0, 1, 4] rfl)
    · skip
      refine lv_bipush (v := nI 16) E.1 E.2.1 dX1_blocks_34 rfl ?_
      refine lv_iload_n E.1 E.2.1 dX1_blocks_36 rfl (lv_at hl 2 rfl) ?_
      refine n_imul E dX1_blocks_37 ?_
      refine lv_bipush (v := nI 16) E.1 E.2.1 dX1_blocks_38 rfl ?_
      refine n_iadd E dX1_blocks_40 ?_
      refine lv_aload_n E.1 E.2.1 dX1_blocks_41 rfl (lv_at hl 4 rfl) ?_
      refine n_get E inR hK hP 0 rfl rfl 1 (by decide) flR_27 rfl rfl dX1_blocks_42 ?_
      refine n_icmp_gt (tgt := 116) E dX1_blocks_45 rfl (by omega) (by omega) (fun h45 => ?_) (fun h45 => ?_)
      · skip
        have e9 : al (fun i => cR (ko i) (mn (xb T b (kc i)) 15) (mx (xb T b (kc i)) 15) (kv i)) j = rbk T n kc ko kv k b := rbk_part (by omega) (by omega)
        rw [e9] at hl
        refine lv_iload_n E.1 E.2.1 dX1_blocks_116 rfl (lv_at hl 3 rfl) ?_
        refine lv_iload_n E.1 E.2.1 dX1_blocks_117 rfl (lv_at hl 1 rfl) ?_
        refine b_if_eq (tgt := 125) E dX1_blocks_118 rfl (fun h118 => ?_) (fun h118 => ?_)
        · skip
          refine lv_iconst (v := nI 0) E.1 E.2.1 dX1_blocks_125 rfl ?_
          refine n_iadd E dX1_blocks_126 ?_
          refine lv_istore_n (lv' := [(1, .int (nI (ct (rbk T n kc ko kv k) b + 0))), (4, .int (nI j)), (3, .int (bI (rbk T n kc ko kv k b))), (2, .int (nI b)), (0, .ref (ad 0))]) E.1 E.2.1 dX1_blocks_127 rfl hl (by decide) rfl (fun ls hl => ?_)
          refine lv_iinc (k := 3) (v := nI (b + 1)) (lv' := [(2, .int (nI (b + 1))), (1, .int (nI (ct (rbk T n kc ko kv k) b + 0))), (4, .int (nI j)), (3, .int (bI (rbk T n kc ko kv k b))), (0, .ref (ad 0))]) E.1 E.2.1 dX1_blocks_128 hl rfl (inc1 _) (by decide) rfl (fun ls hl => ?_)
          refine lv_goto (tgt := 9) E.1 E.2.1 dX1_blocks_131 rfl ?_
          rw [← ct_f (p := (rbk T n kc ko kv k)) h118] at hl
          exact ih9 (b + 1) _ (by omega) (by omega) (lv_sub hl [0, 1, 4] rfl)
        · skip
          refine lv_iconst (v := nI 1) E.1 E.2.1 dX1_blocks_121 rfl ?_
          refine lv_goto (tgt := 126) E.1 E.2.1 dX1_blocks_122 rfl ?_
          refine n_iadd E dX1_blocks_126 ?_
          refine lv_istore_n (lv' := [(1, .int (nI (ct (rbk T n kc ko kv k) b + 1))), (4, .int (nI j)), (3, .int (bI (rbk T n kc ko kv k b))), (2, .int (nI b)), (0, .ref (ad 0))]) E.1 E.2.1 dX1_blocks_127 rfl hl (by decide) rfl (fun ls hl => ?_)
          refine lv_iinc (k := 3) (v := nI (b + 1)) (lv' := [(2, .int (nI (b + 1))), (1, .int (nI (ct (rbk T n kc ko kv k) b + 1))), (4, .int (nI j)), (3, .int (bI (rbk T n kc ko kv k b))), (0, .ref (ad 0))]) E.1 E.2.1 dX1_blocks_128 hl rfl (inc1 _) (by decide) rfl (fun ls hl => ?_)
          refine lv_goto (tgt := 9) E.1 E.2.1 dX1_blocks_131 rfl ?_
          rw [← ct_t (p := (rbk T n kc ko kv k)) h118] at hl
          exact ih9 (b + 1) _ (by omega) (by omega) (lv_sub hl [0, 1, 4] rfl)
      · skip
        have hq := hkc j
        refine lv_aload_n E.1 E.2.1 dX1_blocks_48 rfl (lv_at hl 4 rfl) ?_
        refine lv_iload_n E.1 E.2.1 dX1_blocks_49 rfl (lv_at hl 2 rfl) ?_
        refine lv_aload_n E.1 E.2.1 dX1_blocks_50 rfl (lv_at hl 4 rfl) ?_
        refine n_get E inR hK hP 0 rfl rfl 4 (by decide) flR_13 rfl rfl dX1_blocks_51 ?_
        refine lv_iload E.1 E.2.1 dX1_blocks_54 (lv_at hl 0 rfl) ?_
        refine n_iald E hK hP 2 1 rfl rfl (by decide) (by omega) dX1_blocks_56 ?_
        refine cV_l E (As := [.int (nI b), .int (nI (kc j))]) (rest := []) (cR_least l D ad ca T n kc ko kv k 0 b (kc j) (by omega) (by omega)) kR_48 hK hP 0 rfl rfl rfl rfl ⟨Nat.le_of_ble_eq_true rfl, Nat.le_of_ble_eq_true rfl⟩ rfl hl.1 rfl (Nat.le_of_ble_eq_true rfl) dX1_blocks_57 ⟨Nat.zero_le _, Nat.zero_le _⟩ ?_
        refine lv_lstore (lv' := [(5, .long (mn (xb T b (kc j)) 15)), (4, .int (nI j)), (3, .int (bI (al (fun i => cR (ko i) (mn (xb T b (kc i)) 15) (mx (xb T b (kc i)) 15) (kv i)) j))), (2, .int (nI b)), (1, .int (nI (ct (rbk T n kc ko kv k) b))), (0, .ref (ad 0))]) E.1 E.2.1 dX1_blocks_60 hl (by decide) rfl (fun ls hl => ?_)
        refine lv_aload_n E.1 E.2.1 dX1_blocks_62 rfl (lv_at hl 5 rfl) ?_
        refine lv_iload_n E.1 E.2.1 dX1_blocks_63 rfl (lv_at hl 3 rfl) ?_
        refine lv_aload_n E.1 E.2.1 dX1_blocks_64 rfl (lv_at hl 5 rfl) ?_
        refine n_get E inR hK hP 0 rfl rfl 4 (by decide) flR_13 rfl rfl dX1_blocks_65 ?_
        refine lv_iload E.1 E.2.1 dX1_blocks_68 (lv_at hl 1 rfl) ?_
        refine n_iald E hK hP 2 1 rfl rfl (by decide) (by omega) dX1_blocks_70 ?_
        refine cV_l E (As := [.int (nI b), .int (nI (kc j))]) (rest := []) (cR_greatest l D ad ca T n kc ko kv k 0 b (kc j) (by omega) (by omega)) kR_52 hK hP 0 rfl rfl rfl rfl ⟨Nat.le_of_ble_eq_true rfl, Nat.le_of_ble_eq_true rfl⟩ rfl hl.1 rfl (Nat.le_of_ble_eq_true rfl) dX1_blocks_71 ⟨Nat.zero_le _, Nat.zero_le _⟩ ?_
        refine lv_lstore (lv' := [(7, .long (mx (xb T b (kc j)) 15)), (5, .long (mn (xb T b (kc j)) 15)), (4, .int (nI j)), (3, .int (bI (al (fun i => cR (ko i) (mn (xb T b (kc i)) 15) (mx (xb T b (kc i)) 15) (kv i)) j))), (2, .int (nI b)), (1, .int (nI (ct (rbk T n kc ko kv k) b))), (0, .ref (ad 0))]) E.1 E.2.1 dX1_blocks_74 hl (by decide) rfl (fun ls hl => ?_)
        refine lv_iload_n E.1 E.2.1 dX1_blocks_76 rfl (lv_at hl 3 rfl) ?_
        refine b_if_eq (tgt := 108) E dX1_blocks_77 rfl (fun h77 => ?_) (fun h77 => ?_)
        · skip
          refine lv_iconst (v := nI 0) E.1 E.2.1 dX1_blocks_108 rfl ?_
          refine tpi (y := bI (al (fun i => cR (ko i) (mn (xb T b (kc i)) 15) (mx (xb T b (kc i)) 15) (kv i)) (j + 1))) (congrArg bI (al2 h77 rfl).symm) ?_
          refine lv_istore_n (lv' := [(3, .int (bI (al (fun i => cR (ko i) (mn (xb T b (kc i)) 15) (mx (xb T b (kc i)) 15) (kv i)) (j + 1)))), (7, .long (mx (xb T b (kc j)) 15)), (5, .long (mn (xb T b (kc j)) 15)), (4, .int (nI j)), (2, .int (nI b)), (1, .int (nI (ct (rbk T n kc ko kv k) b))), (0, .ref (ad 0))]) E.1 E.2.1 dX1_blocks_109 rfl hl (by decide) rfl (fun ls hl => ?_)
          refine lv_iinc (k := 3) (v := nI (j + 1)) (lv' := [(4, .int (nI (j + 1))), (3, .int (bI (al (fun i => cR (ko i) (mn (xb T b (kc i)) 15) (mx (xb T b (kc i)) 15) (kv i)) (j + 1)))), (7, .long (mx (xb T b (kc j)) 15)), (5, .long (mn (xb T b (kc j)) 15)), (2, .int (nI b)), (1, .int (nI (ct (rbk T n kc ko kv k) b))), (0, .ref (ad 0))]) E.1 E.2.1 dX1_blocks_110 hl rfl (inc1 _) (by decide) rfl (fun ls hl => ?_)
          refine lv_goto (tgt := 25) E.1 E.2.1 dX1_blocks_113 rfl ?_
          exact ih25 (j + 1) _ (⟨by omega, by omega⟩) (by omega) (lv_sub hl [0, 1, 4, 5, 6] rfl)
        · skip
          refine lv_aload_n E.1 E.2.1 dX1_blocks_80 rfl (lv_at hl 6 rfl) ?_
          refine n_get E inR hK hP 0 rfl rfl 5 (by decide) flR_17 rfl rfl dX1_blocks_81 ?_
          refine lv_iload E.1 E.2.1 dX1_blocks_84 (lv_at hl 2 rfl) ?_
          refine n_iald E hK hP 3 2 rfl rfl (by decide) (by omega) dX1_blocks_86 ?_
          refine lv_lload E.1 E.2.1 dX1_blocks_87 (lv_at hl 1 rfl) ?_
          refine lv_lload E.1 E.2.1 dX1_blocks_89 (lv_at hl 0 rfl) ?_
          refine lv_aload_n E.1 E.2.1 dX1_blocks_91 rfl (lv_at hl 6 rfl) ?_
          refine n_get E inR hK hP 0 rfl rfl 6 (by decide) flR_20 rfl rfl dX1_blocks_92 ?_
          refine lv_iload E.1 E.2.1 dX1_blocks_95 (lv_at hl 2 rfl) ?_
          refine n_lald E hK hP 4 3 rfl rfl (by decide) (by omega) dX1_blocks_97 ?_
          refine cS_i E (As := [.int (nI (ko j)), .long (mn (xb T b (kc j)) 15), .long (mx (xb T b (kc j)) 15), .long (kv j)]) (rest := []) (cR_could l (ko j) (mn (xb T b (kc j)) 15) (mx (xb T b (kc j)) 15) (kv j) (hko j)) kR_55 rfl rfl ⟨Nat.le_of_ble_eq_true rfl, Nat.le_of_ble_eq_true rfl⟩ rfl hl.1 rfl (Nat.le_of_ble_eq_true rfl) dX1_blocks_98 ⟨Nat.zero_le _, Nat.zero_le _⟩ ?_
          refine b_if_eq (tgt := 108) E dX1_blocks_101 rfl (fun h101 => ?_) (fun h101 => ?_)
          · skip
            refine lv_iconst (v := nI 0) E.1 E.2.1 dX1_blocks_108 rfl ?_
            refine tpi (y := bI (al (fun i => cR (ko i) (mn (xb T b (kc i)) 15) (mx (xb T b (kc i)) 15) (kv i)) (j + 1))) (congrArg bI (al2 h77 h101).symm) ?_
            refine lv_istore_n (lv' := [(3, .int (bI (al (fun i => cR (ko i) (mn (xb T b (kc i)) 15) (mx (xb T b (kc i)) 15) (kv i)) (j + 1)))), (7, .long (mx (xb T b (kc j)) 15)), (5, .long (mn (xb T b (kc j)) 15)), (4, .int (nI j)), (2, .int (nI b)), (1, .int (nI (ct (rbk T n kc ko kv k) b))), (0, .ref (ad 0))]) E.1 E.2.1 dX1_blocks_109 rfl hl (by decide) rfl (fun ls hl => ?_)
            refine lv_iinc (k := 3) (v := nI (j + 1)) (lv' := [(4, .int (nI (j + 1))), (3, .int (bI (al (fun i => cR (ko i) (mn (xb T b (kc i)) 15) (mx (xb T b (kc i)) 15) (kv i)) (j + 1)))), (7, .long (mx (xb T b (kc j)) 15)), (5, .long (mn (xb T b (kc j)) 15)), (2, .int (nI b)), (1, .int (nI (ct (rbk T n kc ko kv k) b))), (0, .ref (ad 0))]) E.1 E.2.1 dX1_blocks_110 hl rfl (inc1 _) (by decide) rfl (fun ls hl => ?_)
            refine lv_goto (tgt := 25) E.1 E.2.1 dX1_blocks_113 rfl ?_
            exact ih25 (j + 1) _ (⟨by omega, by omega⟩) (by omega) (lv_sub hl [0, 1, 4, 5, 6] rfl)
          · skip
            refine lv_iconst (v := nI 1) E.1 E.2.1 dX1_blocks_104 rfl ?_
            refine lv_goto (tgt := 109) E.1 E.2.1 dX1_blocks_105 rfl ?_
            refine tpi (y := bI (al (fun i => cR (ko i) (mn (xb T b (kc i)) 15) (mx (xb T b (kc i)) 15) (kv i)) (j + 1))) (congrArg bI (al2 h77 h101).symm) ?_
            refine lv_istore_n (lv' := [(3, .int (bI (al (fun i => cR (ko i) (mn (xb T b (kc i)) 15) (mx (xb T b (kc i)) 15) (kv i)) (j + 1)))), (7, .long (mx (xb T b (kc j)) 15)), (5, .long (mn (xb T b (kc j)) 15)), (4, .int (nI j)), (2, .int (nI b)), (1, .int (nI (ct (rbk T n kc ko kv k) b))), (0, .ref (ad 0))]) E.1 E.2.1 dX1_blocks_109 rfl hl (by decide) rfl (fun ls hl => ?_)
            refine lv_iinc (k := 3) (v := nI (j + 1)) (lv' := [(4, .int (nI (j + 1))), (3, .int (bI (al (fun i => cR (ko i) (mn (xb T b (kc i)) 15) (mx (xb T b (kc i)) 15) (kv i)) (j + 1)))), (7, .long (mx (xb T b (kc j)) 15)), (5, .long (mn (xb T b (kc j)) 15)), (2, .int (nI b)), (1, .int (nI (ct (rbk T n kc ko kv k) b))), (0, .ref (ad 0))]) E.1 E.2.1 dX1_blocks_110 hl rfl (inc1 _) (by decide) rfl (fun ls hl => ?_)
            refine lv_goto (tgt := 25) E.1 E.2.1 dX1_blocks_113 rfl ?_
            exact ih25 (j + 1) _ (⟨by omega, by omega⟩) (by omega) (lv_sub hl [0, 1, 4, 5, 6] rfl)
end
section
/-! Contracts of the model: laid by program (wip/whole/gen.py). -/
set_option maxHeartbeats 4000000 in
set_option maxRecDepth 100000 in
theorem cR_width (l : Launch) (x : Int64)  : Met l yX1_width (wA yX1_width cX1_width 5 (some .int)) (rN 0) (va_Pc [.long x] (fun _ => True)) (vp_Si (fun z => z = nI (wd x))) 0 0 (fun _ => False) := by
  refine met_of RX1 rfl (by decide) (Nat.le_of_ble_eq_true rfl) (fun p e s m below meth cd0 ls E hr hlk _ hB hl => ?_)
  have hl : lv_has ls 5 [(0, .long x)] := hl
  refine lv_iconst (v := nI 0) E.1 E.2.1 dX1_width_0 rfl ?_
  refine lv_istore_n (lv' := [(2, .int (nI 0)), (0, .long x)]) E.1 E.2.1 dX1_width_1 rfl hl (by decide) rfl (fun ls hl => ?_)
  refine lv_lload_n E.1 E.2.1 dX1_width_2 rfl (lv_at hl 1 rfl) ?_
  refine lv_lstore_n (lv' := [(3, .long x), (2, .int (nI 0)), (0, .long x)]) E.1 E.2.1 dX1_width_3 rfl hl (by decide) rfl (fun ls hl => ?_)
  refine w_lp2 (fun (j : Nat) (r : Int64) => uN r = uN x / 2 ^ j ∧ j ≤ wd x) (fun (j : Nat) (r : Int64) => wd x - j) (fun (j : Nat) (r : Int64) => [(3, .long r), (2, .int (nI j)), (0, .long x)]) 0 x (⟨by simp, Nat.zero_le _⟩) (lv_sub hl [0, 1, 2] rfl) (fun j r ls hI hl ih4 => ?_)
  have hl : lv_has ls 5 [(3, .long r), (2, .int (nI j)), (0, .long x)] := hl
  obtain ⟨hw1, hw2⟩ := hI
  refine lv_lload_n E.1 E.2.1 dX1_width_4 rfl (lv_at hl 0 rfl) ?_
  refine lv_lconst (v := 0) E.1 E.2.1 dX1_width_5 rfl ?_
  refine l_if_eq (tgt := 20) E dX1_width_6 dX1_width_7 rfl (fun h6 => ?_) (fun h6 => ?_)
  · skip
    refine lv_iload_n E.1 E.2.1 dX1_width_20 rfl (lv_at hl 1 rfl) ?_
    exact e_i E hr hlk (by rw [wd_stop hw1 hw2 h6]) dX1_width_21
  · skip
    refine lv_iinc (k := 1) (v := nI (j + 1)) (lv' := [(2, .int (nI (j + 1))), (3, .long r), (0, .long x)]) E.1 E.2.1 dX1_width_10 hl rfl (inc1 _) (by decide) rfl (fun ls hl => ?_)
    refine lv_lload_n E.1 E.2.1 dX1_width_13 rfl (lv_at hl 1 rfl) ?_
    refine lv_iconst (v := nI 1) E.1 E.2.1 dX1_width_14 rfl ?_
    refine lv_lushr E.1 E.2.1 dX1_width_15 rfl ?_
    refine lv_lstore_n (lv' := [(3, .long ((r.toUInt64 >>> ((nI 1).toInt64.toUInt64 &&& Int64.toUInt64 63)).toInt64)), (2, .int (nI (j + 1))), (0, .long x)]) E.1 E.2.1 dX1_width_16 rfl hl (by decide) rfl (fun ls hl => ?_)
    refine lv_goto (tgt := 4) E.1 E.2.1 dX1_width_17 rfl ?_
    have hw3 := wd_next hw1 h6
    exact ih4 (j + 1) ((r.toUInt64 >>> ((nI 1).toInt64.toUInt64 &&& Int64.toUInt64 63)).toInt64) _ (⟨by rw [uN_sk r (by omega), hw1, Nat.div_div_eq_div_mul, Nat.pow_one, Nat.pow_succ], hw3⟩) (by omega) (lv_sub hl [0, 1, 2] rfl)
set_option maxHeartbeats 4000000 in
set_option maxRecDepth 100000 in
theorem cR_need (l : Launch) (D : va_G) (ad : Nat → Nat) (ca : Nat → ClassId) (T : Nat → Nat → Int64) (n : Nat) (kc ko : Nat → Nat) (kv : Nat → Int64) (k cd : Nat) (b c w : Nat) (hb0 : b < 8) (hc0 : c < 4) (hw0 : w < 4) : Met l yX1_need (wA yX1_need cX1_need 12 (some .int)) (rN 1) (va_Pc [.ref (ad 0), .int (nI b), .int (nI c), .int (nI w)] (pW D c2 (tR ca) (wR ad ca T n kc ko kv k cd))) (vp_Si (fun z => z = nI (ndz (xb T b c) (cb c) w))) 0 0 (fun _ => False) := by
  refine met_of RX1 rfl (by decide) (Nat.le_of_ble_eq_true rfl) (fun p e s m below meth cd0 ls E hr hlk _ hB hl => ?_)
  obtain ⟨hP, hK⟩ := hB
  have hl : lv_has ls 12 [(0, .ref (ad 0)), (1, .int (nI b)), (2, .int (nI c)), (3, .int (nI w))] := hl
  refine lv_iload_n E.1 E.2.1 dX1_need_0 rfl (lv_at hl 2 rfl) ?_
  refine lv_iconst (v := nI 3) E.1 E.2.1 dX1_need_1 rfl ?_
  refine n_icmp_ne (tgt := 10) E dX1_need_2 rfl (by omega) (by omega) (fun h2 => ?_) (fun h2 => ?_)
  · skip
    refine lv_bipush (v := nI 32) E.1 E.2.1 dX1_need_10 rfl ?_
    refine tpi (y := nI (cb c)) (by rw [cb, if_neg h2]) ?_
    refine lv_istore (lv' := [(4, .int (nI (cb c))), (0, .ref (ad 0)), (1, .int (nI b)), (2, .int (nI c)), (3, .int (nI w))]) E.1 E.2.1 dX1_need_12 hl (by decide) rfl (fun ls hl => ?_)
    have hcb := cb_le c
    refine lv_iload_n E.1 E.2.1 dX1_need_14 rfl (lv_at hl 4 rfl) ?_
    refine n_if_ne (tgt := 24) E dX1_need_15 rfl (by omega) (fun h15 => ?_) (fun h15 => ?_)
    · skip
      refine lv_iload_n E.1 E.2.1 dX1_need_24 rfl (lv_at hl 4 rfl) ?_
      refine lv_iconst (v := nI 3) E.1 E.2.1 dX1_need_25 rfl ?_
      refine n_icmp_ne (tgt := 59) E dX1_need_26 rfl (by omega) (by omega) (fun h26 => ?_) (fun h26 => ?_)
      · skip
        refine lv_iconst (v := nI 0) E.1 E.2.1 dX1_need_59 rfl ?_
        refine lv_istore (lv' := [(5, .int (nI 0)), (4, .int (nI (cb c))), (0, .ref (ad 0)), (1, .int (nI b)), (2, .int (nI c)), (3, .int (nI w))]) E.1 E.2.1 dX1_need_60 hl (by decide) rfl (fun ls hl => ?_)
        refine lv_iconst (v := nI 0) E.1 E.2.1 dX1_need_62 rfl ?_
        refine lv_istore (lv' := [(6, .int (nI 0)), (5, .int (nI 0)), (4, .int (nI (cb c))), (0, .ref (ad 0)), (1, .int (nI b)), (2, .int (nI c)), (3, .int (nI w))]) E.1 E.2.1 dX1_need_63 hl (by decide) rfl (fun ls hl => ?_)
        refine lv_bipush (v := nI 16) E.1 E.2.1 dX1_need_65 rfl ?_
        refine lv_iload_n E.1 E.2.1 dX1_need_67 rfl (lv_at hl 4 rfl) ?_
        refine n_imul E dX1_need_68 ?_
        refine lv_istore (lv' := [(7, .int (nI (16 * b))), (6, .int (nI 0)), (5, .int (nI 0)), (4, .int (nI (cb c))), (0, .ref (ad 0)), (1, .int (nI b)), (2, .int (nI c)), (3, .int (nI w))]) E.1 E.2.1 dX1_need_69 hl (by decide) rfl (fun ls hl => ?_)
        refine w_lp1 (fun (j : Nat) => j ≤ 16) (fun (j : Nat) => 16 - j) (fun (j : Nat) => [(7, .int (nI (16 * b + j))), (6, .int (nI (ct (fun j => al (fun q => !decide (xb T b c q = xb T b c j)) j) j))), (5, .int (nI (ct (fun j => decide (j = 0) || !decide (xb T b c (j - 1) = xb T b c j)) j))), (4, .int (nI (cb c))), (0, .ref (ad 0)), (1, .int (nI b)), (2, .int (nI c)), (3, .int (nI w))]) 0 (Nat.zero_le _) (lv_sub hl [0, 1, 2, 3, 4, 5, 6, 7] rfl) (fun j ls hI hl ih71 => ?_)
        have hl : lv_has ls 12 [(7, .int (nI (16 * b + j))), (6, .int (nI (ct (fun j => al (fun q => !decide (xb T b c q = xb T b c j)) j) j))), (5, .int (nI (ct (fun j => decide (j = 0) || !decide (xb T b c (j - 1) = xb T b c j)) j))), (4, .int (nI (cb c))), (0, .ref (ad 0)), (1, .int (nI b)), (2, .int (nI c)), (3, .int (nI w))] := hl
        refine lv_iload E.1 E.2.1 dX1_need_71 (lv_at hl 0 rfl) ?_
        refine lv_bipush (v := nI 16) E.1 E.2.1 dX1_need_73 rfl ?_
        refine lv_iload_n E.1 E.2.1 dX1_need_75 rfl (lv_at hl 5 rfl) ?_
        refine n_imul E dX1_need_76 ?_
        refine lv_bipush (v := nI 16) E.1 E.2.1 dX1_need_77 rfl ?_
        refine n_iadd E dX1_need_79 ?_
        refine n_icmp_ge (tgt := 206) E dX1_need_80 rfl (by omega) (by omega) (fun h80 => ?_) (fun h80 => ?_)
        · skip
          have e16 : j = 16 := by omega
          subst e16
          have hrr : ct (fun j => decide (j = 0) || !decide (xb T b c (j - 1) = xb T b c j)) 16 = rns (xb T b c) := rns_eq _
          have hww : ct (fun j => al (fun q => !decide (xb T b c q = xb T b c j)) j) 16 = wds (xb T b c) := wds_eq _
          rw [hrr, hww] at hl
          have hwp := wds_pos (xb T b c)
          have hwl := wds_le (xb T b c)
          refine lv_iload_n E.1 E.2.1 dX1_need_206 rfl (lv_at hl 7 rfl) ?_
          refine lv_iconst (v := nI 1) E.1 E.2.1 dX1_need_207 rfl ?_
          refine n_icmp_ne (tgt := 221) E dX1_need_208 rfl (by omega) (by omega) (fun h208 => ?_) (fun h208 => ?_)
          · skip
            refine lv_iload E.1 E.2.1 dX1_need_221 (lv_at hl 3 rfl) ?_
            refine lv_iload E.1 E.2.1 dX1_need_223 (lv_at hl 1 rfl) ?_
            refine n_imul E dX1_need_225 ?_
            refine lv_bipush (v := nI 16) E.1 E.2.1 dX1_need_226 rfl ?_
            refine lv_iload E.1 E.2.1 dX1_need_228 (lv_at hl 1 rfl) ?_
            refine n_i2l E (by omega) dX1_need_230 ?_
            refine lv_lconst (v := 1) E.1 E.2.1 dX1_need_231 rfl ?_
            refine lv_lsub E.1 E.2.1 dX1_need_232 ?_
            refine tpl (y := lN (wds (xb T b c) - 1)) (lN_sub hwp) ?_
            refine cS_i E (As := [.long (lN (wds (xb T b c) - 1))]) (rest := [.int (nI 16), .int (nI ((cb c) * (wds (xb T b c))))]) (cR_width l (lN (wds (xb T b c) - 1))) kR_59 rfl rfl ⟨Nat.le_of_ble_eq_true rfl, Nat.le_of_ble_eq_true rfl⟩ rfl hl.1 rfl (Nat.le_of_ble_eq_true rfl) dX1_need_233 ⟨Nat.zero_le _, Nat.zero_le _⟩ ?_
            refine n_imul E dX1_need_236 ?_
            refine n_iadd E dX1_need_237 ?_
            exact e_i E hr hlk (congrArg nI (by rw [ndz, if_neg h15, if_neg h26, if_neg h208, zW, Nat.mul_comm (cb c)])) dX1_need_238
          · skip
            refine lv_iload E.1 E.2.1 dX1_need_211 (lv_at hl 3 rfl) ?_
            refine lv_iconst (v := nI 5) E.1 E.2.1 dX1_need_213 rfl ?_
            refine n_iadd E dX1_need_214 ?_
            refine lv_iload E.1 E.2.1 dX1_need_215 (lv_at hl 2 rfl) ?_
            refine n_imul E dX1_need_217 ?_
            refine lv_goto (tgt := 238) E.1 E.2.1 dX1_need_218 rfl ?_
            exact e_i E hr hlk (congrArg nI (by rw [ndz, if_neg h15, if_neg h26, if_pos h208, zR, Nat.mul_comm])) dX1_need_238
        · skip
          refine lv_aload_n E.1 E.2.1 dX1_need_83 rfl (lv_at hl 4 rfl) ?_
          refine n_get E inR hK hP 0 rfl rfl 2 (by decide) flR_7 rfl rfl dX1_need_84 ?_
          refine lv_iconst (v := nI 4) E.1 E.2.1 dX1_need_87 rfl ?_
          refine lv_iload E.1 E.2.1 dX1_need_88 (lv_at hl 0 rfl) ?_
          refine n_imul E dX1_need_90 ?_
          refine lv_iload_n E.1 E.2.1 dX1_need_91 rfl (lv_at hl 6 rfl) ?_
          refine n_iadd E dX1_need_92 ?_
          refine n_rald E hK hP 1 0 rfl rfl (16 * b + j) c (by omega) (by omega) (by omega) dX1_need_93 ?_
          refine lv_lstore (lv' := [(8, .long (T (16 * b + j) c)), (7, .int (nI (16 * b + j))), (6, .int (nI (ct (fun j => al (fun q => !decide (xb T b c q = xb T b c j)) j) j))), (5, .int (nI (ct (fun j => decide (j = 0) || !decide (xb T b c (j - 1) = xb T b c j)) j))), (4, .int (nI (cb c))), (0, .ref (ad 0)), (1, .int (nI b)), (2, .int (nI c)), (3, .int (nI w))]) E.1 E.2.1 dX1_need_94 hl (by decide) rfl (fun ls hl => ?_)
          refine lv_iconst (v := nI 1) E.1 E.2.1 dX1_need_96 rfl ?_
          refine lv_istore (lv' := [(10, .int (nI 1)), (8, .long (T (16 * b + j) c)), (7, .int (nI (16 * b + j))), (6, .int (nI (ct (fun j => al (fun q => !decide (xb T b c q = xb T b c j)) j) j))), (5, .int (nI (ct (fun j => decide (j = 0) || !decide (xb T b c (j - 1) = xb T b c j)) j))), (4, .int (nI (cb c))), (0, .ref (ad 0)), (1, .int (nI b)), (2, .int (nI c)), (3, .int (nI w))]) E.1 E.2.1 dX1_need_97 hl (by decide) rfl (fun ls hl => ?_)
          refine lv_bipush (v := nI 16) E.1 E.2.1 dX1_need_99 rfl ?_
          refine lv_iload_n E.1 E.2.1 dX1_need_101 rfl (lv_at hl 7 rfl) ?_
          refine n_imul E dX1_need_102 ?_
          refine lv_istore (lv' := [(11, .int (nI (16 * b))), (10, .int (nI 1)), (8, .long (T (16 * b + j) c)), (7, .int (nI (16 * b + j))), (6, .int (nI (ct (fun j => al (fun q => !decide (xb T b c q = xb T b c j)) j) j))), (5, .int (nI (ct (fun j => decide (j = 0) || !decide (xb T b c (j - 1) = xb T b c j)) j))), (4, .int (nI (cb c))), (0, .ref (ad 0)), (1, .int (nI b)), (2, .int (nI c)), (3, .int (nI w))]) E.1 E.2.1 dX1_need_103 hl (by decide) rfl (fun ls hl => ?_)
          refine w_lp1 (fun (i : Nat) => i ≤ j) (fun (i : Nat) => j - i) (fun (i : Nat) => [(11, .int (nI (16 * b + i))), (10, .int (bI (al (fun q => !decide (xb T b c q = xb T b c j)) i))), (7, .int (nI (16 * b + j))), (8, .long (T (16 * b + j) c)), (6, .int (nI (ct (fun j => al (fun q => !decide (xb T b c q = xb T b c j)) j) j))), (5, .int (nI (ct (fun j => decide (j = 0) || !decide (xb T b c (j - 1) = xb T b c j)) j))), (4, .int (nI (cb c))), (0, .ref (ad 0)), (1, .int (nI b)), (2, .int (nI c)), (3, .int (nI w))]) 0 (Nat.zero_le _) (lv_sub hl [0, 1, 3, 2, 4, 5, 6, 7, 8, 9, 10] rfl) (fun i ls hI hl ih105 => ?_)
          have hl : lv_has ls 12 [(11, .int (nI (16 * b + i))), (10, .int (bI (al (fun q => !decide (xb T b c q = xb T b c j)) i))), (7, .int (nI (16 * b + j))), (8, .long (T (16 * b + j) c)), (6, .int (nI (ct (fun j => al (fun q => !decide (xb T b c q = xb T b c j)) j) j))), (5, .int (nI (ct (fun j => decide (j = 0) || !decide (xb T b c (j - 1) = xb T b c j)) j))), (4, .int (nI (cb c))), (0, .ref (ad 0)), (1, .int (nI b)), (2, .int (nI c)), (3, .int (nI w))] := hl
          refine lv_iload E.1 E.2.1 dX1_need_105 (lv_at hl 0 rfl) ?_
          refine lv_iload E.1 E.2.1 dX1_need_107 (lv_at hl 2 rfl) ?_
          refine n_icmp_ge (tgt := 147) E dX1_need_109 rfl (by omega) (by omega) (fun h109 => ?_) (fun h109 => ?_)
          · skip
            have e9 : i = j := by omega
            rw [e9] at hl
            refine lv_iload E.1 E.2.1 dX1_need_147 (lv_at hl 4 rfl) ?_
            refine lv_iload E.1 E.2.1 dX1_need_149 (lv_at hl 1 rfl) ?_
            refine b_if_eq (tgt := 158) E dX1_need_151 rfl (fun h151 => ?_) (fun h151 => ?_)
            · skip
              refine lv_iconst (v := nI 0) E.1 E.2.1 dX1_need_158 rfl ?_
              refine n_iadd E dX1_need_159 ?_
              refine tpi (y := nI (ct (fun j => al (fun q => !decide (xb T b c q = xb T b c j)) j) (j + 1))) (congrArg nI (ct_f (p := (fun j => al (fun q => !decide (xb T b c q = xb T b c j)) j)) h151).symm) ?_
              refine lv_istore (lv' := [(6, .int (nI (ct (fun j => al (fun q => !decide (xb T b c q = xb T b c j)) j) (j + 1)))), (11, .int (nI (16 * b + j))), (10, .int (bI (al (fun q => !decide (xb T b c q = xb T b c j)) j))), (7, .int (nI (16 * b + j))), (8, .long (T (16 * b + j) c)), (5, .int (nI (ct (fun j => decide (j = 0) || !decide (xb T b c (j - 1) = xb T b c j)) j))), (4, .int (nI (cb c))), (0, .ref (ad 0)), (1, .int (nI b)), (2, .int (nI c)), (3, .int (nI w))]) E.1 E.2.1 dX1_need_160 hl (by decide) rfl (fun ls hl => ?_)
              refine lv_iload E.1 E.2.1 dX1_need_162 (lv_at hl 5 rfl) ?_
              refine lv_iload E.1 E.2.1 dX1_need_164 (lv_at hl 3 rfl) ?_
              refine lv_bipush (v := nI 16) E.1 E.2.1 dX1_need_166 rfl ?_
              refine lv_iload_n E.1 E.2.1 dX1_need_168 rfl (lv_at hl 8 rfl) ?_
              refine n_imul E dX1_need_169 ?_
              refine n_icmp_eq (tgt := 192) E dX1_need_170 rfl (by omega) (by omega) (fun h170 => ?_) (fun h170 => ?_)
              · skip
                refine lv_iconst (v := nI 1) E.1 E.2.1 dX1_need_192 rfl ?_
                refine lv_goto (tgt := 197) E.1 E.2.1 dX1_need_193 rfl ?_
                refine n_iadd E dX1_need_197 ?_
                refine tpi (y := nI (ct (fun j => decide (j = 0) || !decide (xb T b c (j - 1) = xb T b c j)) (j + 1))) (congrArg nI (ct_t (p := (fun j => decide (j = 0) || !decide (xb T b c (j - 1) = xb T b c j))) (by simp [show j = 0 by omega])).symm) ?_
                refine lv_istore (lv' := [(5, .int (nI (ct (fun j => decide (j = 0) || !decide (xb T b c (j - 1) = xb T b c j)) (j + 1)))), (6, .int (nI (ct (fun j => al (fun q => !decide (xb T b c q = xb T b c j)) j) (j + 1)))), (11, .int (nI (16 * b + j))), (10, .int (bI (al (fun q => !decide (xb T b c q = xb T b c j)) j))), (7, .int (nI (16 * b + j))), (8, .long (T (16 * b + j) c)), (4, .int (nI (cb c))), (0, .ref (ad 0)), (1, .int (nI b)), (2, .int (nI c)), (3, .int (nI w))]) E.1 E.2.1 dX1_need_198 hl (by decide) rfl (fun ls hl => ?_)
                refine lv_iinc (k := 4) (v := nI (16 * b + j + 1)) (lv' := [(7, .int (nI (16 * b + j + 1))), (5, .int (nI (ct (fun j => decide (j = 0) || !decide (xb T b c (j - 1) = xb T b c j)) (j + 1)))), (6, .int (nI (ct (fun j => al (fun q => !decide (xb T b c q = xb T b c j)) j) (j + 1)))), (11, .int (nI (16 * b + j))), (10, .int (bI (al (fun q => !decide (xb T b c q = xb T b c j)) j))), (8, .long (T (16 * b + j) c)), (4, .int (nI (cb c))), (0, .ref (ad 0)), (1, .int (nI b)), (2, .int (nI c)), (3, .int (nI w))]) E.1 E.2.1 dX1_need_200 hl rfl (inc1 _) (by decide) rfl (fun ls hl => ?_)
                refine lv_goto (tgt := 71) E.1 E.2.1 dX1_need_203 rfl ?_
                exact ih71 (j + 1) _ (by omega) (by omega) (lv_sub hl [0, 2, 1, 6, 7, 8, 9, 10] rfl)
              · skip
                refine lv_aload_n E.1 E.2.1 dX1_need_173 rfl (lv_at hl 7 rfl) ?_
                refine n_get E inR hK hP 0 rfl rfl 2 (by decide) flR_7 rfl rfl dX1_need_174 ?_
                refine lv_iconst (v := nI 4) E.1 E.2.1 dX1_need_177 rfl ?_
                refine lv_iload E.1 E.2.1 dX1_need_178 (lv_at hl 3 rfl) ?_
                refine n_imul E dX1_need_180 ?_
                refine lv_iconst (v := nI 4) E.1 E.2.1 dX1_need_181 rfl ?_
                refine n_isub E (by omega) dX1_need_182 ?_
                refine lv_iload_n E.1 E.2.1 dX1_need_183 rfl (lv_at hl 9 rfl) ?_
                refine n_iadd E dX1_need_184 ?_
                refine n_rald E hK hP 1 0 rfl rfl (16 * b + (j - 1)) c (by omega) (by omega) (by omega) dX1_need_185 ?_
                refine lv_lload E.1 E.2.1 dX1_need_186 (lv_at hl 4 rfl) ?_
                refine l_if_eq (tgt := 196) E dX1_need_188 dX1_need_189 rfl (fun h188 => ?_) (fun h188 => ?_)
                · skip
                  refine lv_iconst (v := nI 0) E.1 E.2.1 dX1_need_196 rfl ?_
                  refine n_iadd E dX1_need_197 ?_
                  refine tpi (y := nI (ct (fun j => decide (j = 0) || !decide (xb T b c (j - 1) = xb T b c j)) (j + 1))) (congrArg nI (ct_f (p := (fun j => decide (j = 0) || !decide (xb T b c (j - 1) = xb T b c j))) (by rw [nd_t (show xb T b c (j - 1) = xb T b c j from h188), decide_eq_false (show ¬ j = 0 by omega)]; rfl)).symm) ?_
                  refine lv_istore (lv' := [(5, .int (nI (ct (fun j => decide (j = 0) || !decide (xb T b c (j - 1) = xb T b c j)) (j + 1)))), (6, .int (nI (ct (fun j => al (fun q => !decide (xb T b c q = xb T b c j)) j) (j + 1)))), (11, .int (nI (16 * b + j))), (10, .int (bI (al (fun q => !decide (xb T b c q = xb T b c j)) j))), (7, .int (nI (16 * b + j))), (8, .long (T (16 * b + j) c)), (4, .int (nI (cb c))), (0, .ref (ad 0)), (1, .int (nI b)), (2, .int (nI c)), (3, .int (nI w))]) E.1 E.2.1 dX1_need_198 hl (by decide) rfl (fun ls hl => ?_)
                  refine lv_iinc (k := 4) (v := nI (16 * b + j + 1)) (lv' := [(7, .int (nI (16 * b + j + 1))), (5, .int (nI (ct (fun j => decide (j = 0) || !decide (xb T b c (j - 1) = xb T b c j)) (j + 1)))), (6, .int (nI (ct (fun j => al (fun q => !decide (xb T b c q = xb T b c j)) j) (j + 1)))), (11, .int (nI (16 * b + j))), (10, .int (bI (al (fun q => !decide (xb T b c q = xb T b c j)) j))), (8, .long (T (16 * b + j) c)), (4, .int (nI (cb c))), (0, .ref (ad 0)), (1, .int (nI b)), (2, .int (nI c)), (3, .int (nI w))]) E.1 E.2.1 dX1_need_200 hl rfl (inc1 _) (by decide) rfl (fun ls hl => ?_)
                  refine lv_goto (tgt := 71) E.1 E.2.1 dX1_need_203 rfl ?_
                  exact ih71 (j + 1) _ (by omega) (by omega) (lv_sub hl [0, 2, 1, 6, 7, 8, 9, 10] rfl)
                · skip
                  refine lv_iconst (v := nI 1) E.1 E.2.1 dX1_need_192 rfl ?_
                  refine lv_goto (tgt := 197) E.1 E.2.1 dX1_need_193 rfl ?_
                  refine n_iadd E dX1_need_197 ?_
                  refine tpi (y := nI (ct (fun j => decide (j = 0) || !decide (xb T b c (j - 1) = xb T b c j)) (j + 1))) (congrArg nI (ct_t (p := (fun j => decide (j = 0) || !decide (xb T b c (j - 1) = xb T b c j))) (by rw [nd_f (show ¬ xb T b c (j - 1) = xb T b c j from h188), Bool.or_true])).symm) ?_
                  refine lv_istore (lv' := [(5, .int (nI (ct (fun j => decide (j = 0) || !decide (xb T b c (j - 1) = xb T b c j)) (j + 1)))), (6, .int (nI (ct (fun j => al (fun q => !decide (xb T b c q = xb T b c j)) j) (j + 1)))), (11, .int (nI (16 * b + j))), (10, .int (bI (al (fun q => !decide (xb T b c q = xb T b c j)) j))), (7, .int (nI (16 * b + j))), (8, .long (T (16 * b + j) c)), (4, .int (nI (cb c))), (0, .ref (ad 0)), (1, .int (nI b)), (2, .int (nI c)), (3, .int (nI w))]) E.1 E.2.1 dX1_need_198 hl (by decide) rfl (fun ls hl => ?_)
                  refine lv_iinc (k := 4) (v := nI (16 * b + j + 1)) (lv' := [(7, .int (nI (16 * b + j + 1))), (5, .int (nI (ct (fun j => decide (j = 0) || !decide (xb T b c (j - 1) = xb T b c j)) (j + 1)))), (6, .int (nI (ct (fun j => al (fun q => !decide (xb T b c q = xb T b c j)) j) (j + 1)))), (11, .int (nI (16 * b + j))), (10, .int (bI (al (fun q => !decide (xb T b c q = xb T b c j)) j))), (8, .long (T (16 * b + j) c)), (4, .int (nI (cb c))), (0, .ref (ad 0)), (1, .int (nI b)), (2, .int (nI c)), (3, .int (nI w))]) E.1 E.2.1 dX1_need_200 hl rfl (inc1 _) (by decide) rfl (fun ls hl => ?_)
                  refine lv_goto (tgt := 71) E.1 E.2.1 dX1_need_203 rfl ?_
                  exact ih71 (j + 1) _ (by omega) (by omega) (lv_sub hl [0, 2, 1, 6, 7, 8, 9, 10] rfl)
            · skip
              refine lv_iconst (v := nI 1) E.1 E.2.1 dX1_need_154 rfl ?_
              refine lv_goto (tgt := 159) E.1 E.2.1 dX1_need_155 rfl ?_
              refine n_iadd E dX1_need_159 ?_
              refine tpi (y := nI (ct (fun j => al (fun q => !decide (xb T b c q = xb T b c j)) j) (j + 1))) (congrArg nI (ct_t (p := (fun j => al (fun q => !decide (xb T b c q = xb T b c j)) j)) h151).symm) ?_
              refine lv_istore (lv' := [(6, .int (nI (ct (fun j => al (fun q => !decide (xb T b c q = xb T b c j)) j) (j + 1)))), (11, .int (nI (16 * b + j))), (10, .int (bI (al (fun q => !decide (xb T b c q = xb T b c j)) j))), (7, .int (nI (16 * b + j))), (8, .long (T (16 * b + j) c)), (5, .int (nI (ct (fun j => decide (j = 0) || !decide (xb T b c (j - 1) = xb T b c j)) j))), (4, .int (nI (cb c))), (0, .ref (ad 0)), (1, .int (nI b)), (2, .int (nI c)), (3, .int (nI w))]) E.1 E.2.1 dX1_need_160 hl (by decide) rfl (fun ls hl => ?_)
              refine lv_iload E.1 E.2.1 dX1_need_162 (lv_at hl 5 rfl) ?_
              refine lv_iload E.1 E.2.1 dX1_need_164 (lv_at hl 3 rfl) ?_
              refine lv_bipush (v := nI 16) E.1 E.2.1 dX1_need_166 rfl ?_
              refine lv_iload_n E.1 E.2.1 dX1_need_168 rfl (lv_at hl 8 rfl) ?_
              refine n_imul E dX1_need_169 ?_
              refine n_icmp_eq (tgt := 192) E dX1_need_170 rfl (by omega) (by omega) (fun h170 => ?_) (fun h170 => ?_)
              · skip
                refine lv_iconst (v := nI 1) E.1 E.2.1 dX1_need_192 rfl ?_
                refine lv_goto (tgt := 197) E.1 E.2.1 dX1_need_193 rfl ?_
                refine n_iadd E dX1_need_197 ?_
                refine tpi (y := nI (ct (fun j => decide (j = 0) || !decide (xb T b c (j - 1) = xb T b c j)) (j + 1))) (congrArg nI (ct_t (p := (fun j => decide (j = 0) || !decide (xb T b c (j - 1) = xb T b c j))) (by simp [show j = 0 by omega])).symm) ?_
                refine lv_istore (lv' := [(5, .int (nI (ct (fun j => decide (j = 0) || !decide (xb T b c (j - 1) = xb T b c j)) (j + 1)))), (6, .int (nI (ct (fun j => al (fun q => !decide (xb T b c q = xb T b c j)) j) (j + 1)))), (11, .int (nI (16 * b + j))), (10, .int (bI (al (fun q => !decide (xb T b c q = xb T b c j)) j))), (7, .int (nI (16 * b + j))), (8, .long (T (16 * b + j) c)), (4, .int (nI (cb c))), (0, .ref (ad 0)), (1, .int (nI b)), (2, .int (nI c)), (3, .int (nI w))]) E.1 E.2.1 dX1_need_198 hl (by decide) rfl (fun ls hl => ?_)
                refine lv_iinc (k := 4) (v := nI (16 * b + j + 1)) (lv' := [(7, .int (nI (16 * b + j + 1))), (5, .int (nI (ct (fun j => decide (j = 0) || !decide (xb T b c (j - 1) = xb T b c j)) (j + 1)))), (6, .int (nI (ct (fun j => al (fun q => !decide (xb T b c q = xb T b c j)) j) (j + 1)))), (11, .int (nI (16 * b + j))), (10, .int (bI (al (fun q => !decide (xb T b c q = xb T b c j)) j))), (8, .long (T (16 * b + j) c)), (4, .int (nI (cb c))), (0, .ref (ad 0)), (1, .int (nI b)), (2, .int (nI c)), (3, .int (nI w))]) E.1 E.2.1 dX1_need_200 hl rfl (inc1 _) (by decide) rfl (fun ls hl => ?_)
                refine lv_goto (tgt := 71) E.1 E.2.1 dX1_need_203 rfl ?_
                exact ih71 (j + 1) _ (by omega) (by omega) (lv_sub hl [0, 2, 1, 6, 7, 8, 9, 10] rfl)
              · skip
                refine lv_aload_n E.1 E.2.1 dX1_need_173 rfl (lv_at hl 7 rfl) ?_
                refine n_get E inR hK hP 0 rfl rfl 2 (by decide) flR_7 rfl rfl dX1_need_174 ?_
                refine lv_iconst (v := nI 4) E.1 E.2.1 dX1_need_177 rfl ?_
                refine lv_iload E.1 E.2.1 dX1_need_178 (lv_at hl 3 rfl) ?_
                refine n_imul E dX1_need_180 ?_
                refine lv_iconst (v := nI 4) E.1 E.2.1 dX1_need_181 rfl ?_
                refine n_isub E (by omega) dX1_need_182 ?_
                refine lv_iload_n E.1 E.2.1 dX1_need_183 rfl (lv_at hl 9 rfl) ?_
                refine n_iadd E dX1_need_184 ?_
                refine n_rald E hK hP 1 0 rfl rfl (16 * b + (j - 1)) c (by omega) (by omega) (by omega) dX1_need_185 ?_
                refine lv_lload E.1 E.2.1 dX1_need_186 (lv_at hl 4 rfl) ?_
                refine l_if_eq (tgt := 196) E dX1_need_188 dX1_need_189 rfl (fun h188 => ?_) (fun h188 => ?_)
                · skip
                  refine lv_iconst (v := nI 0) E.1 E.2.1 dX1_need_196 rfl ?_
                  refine n_iadd E dX1_need_197 ?_
                  refine tpi (y := nI (ct (fun j => decide (j = 0) || !decide (xb T b c (j - 1) = xb T b c j)) (j + 1))) (congrArg nI (ct_f (p := (fun j => decide (j = 0) || !decide (xb T b c (j - 1) = xb T b c j))) (by rw [nd_t (show xb T b c (j - 1) = xb T b c j from h188), decide_eq_false (show ¬ j = 0 by omega)]; rfl)).symm) ?_
                  refine lv_istore (lv' := [(5, .int (nI (ct (fun j => decide (j = 0) || !decide (xb T b c (j - 1) = xb T b c j)) (j + 1)))), (6, .int (nI (ct (fun j => al (fun q => !decide (xb T b c q = xb T b c j)) j) (j + 1)))), (11, .int (nI (16 * b + j))), (10, .int (bI (al (fun q => !decide (xb T b c q = xb T b c j)) j))), (7, .int (nI (16 * b + j))), (8, .long (T (16 * b + j) c)), (4, .int (nI (cb c))), (0, .ref (ad 0)), (1, .int (nI b)), (2, .int (nI c)), (3, .int (nI w))]) E.1 E.2.1 dX1_need_198 hl (by decide) rfl (fun ls hl => ?_)
                  refine lv_iinc (k := 4) (v := nI (16 * b + j + 1)) (lv' := [(7, .int (nI (16 * b + j + 1))), (5, .int (nI (ct (fun j => decide (j = 0) || !decide (xb T b c (j - 1) = xb T b c j)) (j + 1)))), (6, .int (nI (ct (fun j => al (fun q => !decide (xb T b c q = xb T b c j)) j) (j + 1)))), (11, .int (nI (16 * b + j))), (10, .int (bI (al (fun q => !decide (xb T b c q = xb T b c j)) j))), (8, .long (T (16 * b + j) c)), (4, .int (nI (cb c))), (0, .ref (ad 0)), (1, .int (nI b)), (2, .int (nI c)), (3, .int (nI w))]) E.1 E.2.1 dX1_need_200 hl rfl (inc1 _) (by decide) rfl (fun ls hl => ?_)
                  refine lv_goto (tgt := 71) E.1 E.2.1 dX1_need_203 rfl ?_
                  exact ih71 (j + 1) _ (by omega) (by omega) (lv_sub hl [0, 2, 1, 6, 7, 8, 9, 10] rfl)
                · skip
                  refine lv_iconst (v := nI 1) E.1 E.2.1 dX1_need_192 rfl ?_
                  refine lv_goto (tgt := 197) E.1 E.2.1 dX1_need_193 rfl ?_
                  refine n_iadd E dX1_need_197 ?_
                  refine tpi (y := nI (ct (fun j => decide (j = 0) || !decide (xb T b c (j - 1) = xb T b c j)) (j + 1))) (congrArg nI (ct_t (p := (fun j => decide (j = 0) || !decide (xb T b c (j - 1) = xb T b c j))) (by rw [nd_f (show ¬ xb T b c (j - 1) = xb T b c j from h188), Bool.or_true])).symm) ?_
                  refine lv_istore (lv' := [(5, .int (nI (ct (fun j => decide (j = 0) || !decide (xb T b c (j - 1) = xb T b c j)) (j + 1)))), (6, .int (nI (ct (fun j => al (fun q => !decide (xb T b c q = xb T b c j)) j) (j + 1)))), (11, .int (nI (16 * b + j))), (10, .int (bI (al (fun q => !decide (xb T b c q = xb T b c j)) j))), (7, .int (nI (16 * b + j))), (8, .long (T (16 * b + j) c)), (4, .int (nI (cb c))), (0, .ref (ad 0)), (1, .int (nI b)), (2, .int (nI c)), (3, .int (nI w))]) E.1 E.2.1 dX1_need_198 hl (by decide) rfl (fun ls hl => ?_)
                  refine lv_iinc (k := 4) (v := nI (16 * b + j + 1)) (lv' := [(7, .int (nI (16 * b + j + 1))), (5, .int (nI (ct (fun j => decide (j = 0) || !decide (xb T b c (j - 1) = xb T b c j)) (j + 1)))), (6, .int (nI (ct (fun j => al (fun q => !decide (xb T b c q = xb T b c j)) j) (j + 1)))), (11, .int (nI (16 * b + j))), (10, .int (bI (al (fun q => !decide (xb T b c q = xb T b c j)) j))), (8, .long (T (16 * b + j) c)), (4, .int (nI (cb c))), (0, .ref (ad 0)), (1, .int (nI b)), (2, .int (nI c)), (3, .int (nI w))]) E.1 E.2.1 dX1_need_200 hl rfl (inc1 _) (by decide) rfl (fun ls hl => ?_)
                  refine lv_goto (tgt := 71) E.1 E.2.1 dX1_need_203 rfl ?_
                  exact ih71 (j + 1) _ (by omega) (by omega) (lv_sub hl [0, 2, 1, 6, 7, 8, 9, 10] rfl)
          · skip
            refine lv_iload E.1 E.2.1 dX1_need_112 (lv_at hl 1 rfl) ?_
            refine b_if_eq (tgt := 138) E dX1_need_114 rfl (fun h114 => ?_) (fun h114 => ?_)
            · skip
              refine lv_iconst (v := nI 0) E.1 E.2.1 dX1_need_138 rfl ?_
              refine tpi (y := bI (al (fun q => !decide (xb T b c q = xb T b c j)) (i + 1))) (congrArg bI (al2 h114 rfl).symm) ?_
              refine lv_istore (lv' := [(10, .int (bI (al (fun q => !decide (xb T b c q = xb T b c j)) (i + 1)))), (11, .int (nI (16 * b + i))), (7, .int (nI (16 * b + j))), (8, .long (T (16 * b + j) c)), (6, .int (nI (ct (fun j => al (fun q => !decide (xb T b c q = xb T b c j)) j) j))), (5, .int (nI (ct (fun j => decide (j = 0) || !decide (xb T b c (j - 1) = xb T b c j)) j))), (4, .int (nI (cb c))), (0, .ref (ad 0)), (1, .int (nI b)), (2, .int (nI c)), (3, .int (nI w))]) E.1 E.2.1 dX1_need_139 hl (by decide) rfl (fun ls hl => ?_)
              refine lv_iinc (k := 1) (v := nI (16 * b + i + 1)) (lv' := [(11, .int (nI (16 * b + i + 1))), (10, .int (bI (al (fun q => !decide (xb T b c q = xb T b c j)) (i + 1)))), (7, .int (nI (16 * b + j))), (8, .long (T (16 * b + j) c)), (6, .int (nI (ct (fun j => al (fun q => !decide (xb T b c q = xb T b c j)) j) j))), (5, .int (nI (ct (fun j => decide (j = 0) || !decide (xb T b c (j - 1) = xb T b c j)) j))), (4, .int (nI (cb c))), (0, .ref (ad 0)), (1, .int (nI b)), (2, .int (nI c)), (3, .int (nI w))]) E.1 E.2.1 dX1_need_141 hl rfl (inc1 _) (by decide) rfl (fun ls hl => ?_)
              refine lv_goto (tgt := 105) E.1 E.2.1 dX1_need_144 rfl ?_
              exact ih105 (i + 1) _ (by omega) (by omega) (lv_sub hl [0, 1, 2, 3, 4, 5, 6, 7, 8, 9, 10] rfl)
            · skip
              refine lv_aload_n E.1 E.2.1 dX1_need_117 rfl (lv_at hl 7 rfl) ?_
              refine n_get E inR hK hP 0 rfl rfl 2 (by decide) flR_7 rfl rfl dX1_need_118 ?_
              refine lv_iconst (v := nI 4) E.1 E.2.1 dX1_need_121 rfl ?_
              refine lv_iload E.1 E.2.1 dX1_need_122 (lv_at hl 0 rfl) ?_
              refine n_imul E dX1_need_124 ?_
              refine lv_iload_n E.1 E.2.1 dX1_need_125 rfl (lv_at hl 9 rfl) ?_
              refine n_iadd E dX1_need_126 ?_
              refine n_rald E hK hP 1 0 rfl rfl (16 * b + i) c (by omega) (by omega) (by omega) dX1_need_127 ?_
              refine lv_lload E.1 E.2.1 dX1_need_128 (lv_at hl 3 rfl) ?_
              refine l_if_eq (tgt := 138) E dX1_need_130 dX1_need_131 rfl (fun h130 => ?_) (fun h130 => ?_)
              · skip
                refine lv_iconst (v := nI 0) E.1 E.2.1 dX1_need_138 rfl ?_
                refine tpi (y := bI (al (fun q => !decide (xb T b c q = xb T b c j)) (i + 1))) (congrArg bI (al2 h114 (nd_t h130)).symm) ?_
                refine lv_istore (lv' := [(10, .int (bI (al (fun q => !decide (xb T b c q = xb T b c j)) (i + 1)))), (11, .int (nI (16 * b + i))), (7, .int (nI (16 * b + j))), (8, .long (T (16 * b + j) c)), (6, .int (nI (ct (fun j => al (fun q => !decide (xb T b c q = xb T b c j)) j) j))), (5, .int (nI (ct (fun j => decide (j = 0) || !decide (xb T b c (j - 1) = xb T b c j)) j))), (4, .int (nI (cb c))), (0, .ref (ad 0)), (1, .int (nI b)), (2, .int (nI c)), (3, .int (nI w))]) E.1 E.2.1 dX1_need_139 hl (by decide) rfl (fun ls hl => ?_)
                refine lv_iinc (k := 1) (v := nI (16 * b + i + 1)) (lv' := [(11, .int (nI (16 * b + i + 1))), (10, .int (bI (al (fun q => !decide (xb T b c q = xb T b c j)) (i + 1)))), (7, .int (nI (16 * b + j))), (8, .long (T (16 * b + j) c)), (6, .int (nI (ct (fun j => al (fun q => !decide (xb T b c q = xb T b c j)) j) j))), (5, .int (nI (ct (fun j => decide (j = 0) || !decide (xb T b c (j - 1) = xb T b c j)) j))), (4, .int (nI (cb c))), (0, .ref (ad 0)), (1, .int (nI b)), (2, .int (nI c)), (3, .int (nI w))]) E.1 E.2.1 dX1_need_141 hl rfl (inc1 _) (by decide) rfl (fun ls hl => ?_)
                refine lv_goto (tgt := 105) E.1 E.2.1 dX1_need_144 rfl ?_
                exact ih105 (i + 1) _ (by omega) (by omega) (lv_sub hl [0, 1, 2, 3, 4, 5, 6, 7, 8, 9, 10] rfl)
              · skip
                refine lv_iconst (v := nI 1) E.1 E.2.1 dX1_need_134 rfl ?_
                refine lv_goto (tgt := 139) E.1 E.2.1 dX1_need_135 rfl ?_
                refine tpi (y := bI (al (fun q => !decide (xb T b c q = xb T b c j)) (i + 1))) (congrArg bI (al2 h114 (nd_f h130)).symm) ?_
                refine lv_istore (lv' := [(10, .int (bI (al (fun q => !decide (xb T b c q = xb T b c j)) (i + 1)))), (11, .int (nI (16 * b + i))), (7, .int (nI (16 * b + j))), (8, .long (T (16 * b + j) c)), (6, .int (nI (ct (fun j => al (fun q => !decide (xb T b c q = xb T b c j)) j) j))), (5, .int (nI (ct (fun j => decide (j = 0) || !decide (xb T b c (j - 1) = xb T b c j)) j))), (4, .int (nI (cb c))), (0, .ref (ad 0)), (1, .int (nI b)), (2, .int (nI c)), (3, .int (nI w))]) E.1 E.2.1 dX1_need_139 hl (by decide) rfl (fun ls hl => ?_)
                refine lv_iinc (k := 1) (v := nI (16 * b + i + 1)) (lv' := [(11, .int (nI (16 * b + i + 1))), (10, .int (bI (al (fun q => !decide (xb T b c q = xb T b c j)) (i + 1)))), (7, .int (nI (16 * b + j))), (8, .long (T (16 * b + j) c)), (6, .int (nI (ct (fun j => al (fun q => !decide (xb T b c q = xb T b c j)) j) j))), (5, .int (nI (ct (fun j => decide (j = 0) || !decide (xb T b c (j - 1) = xb T b c j)) j))), (4, .int (nI (cb c))), (0, .ref (ad 0)), (1, .int (nI b)), (2, .int (nI c)), (3, .int (nI w))]) E.1 E.2.1 dX1_need_141 hl rfl (inc1 _) (by decide) rfl (fun ls hl => ?_)
                refine lv_goto (tgt := 105) E.1 E.2.1 dX1_need_144 rfl ?_
                exact ih105 (i + 1) _ (by omega) (by omega) (lv_sub hl [0, 1, 2, 3, 4, 5, 6, 7, 8, 9, 10] rfl)
      · skip
        refine lv_aload_n E.1 E.2.1 dX1_need_29 rfl (lv_at hl 1 rfl) ?_
        refine lv_iload_n E.1 E.2.1 dX1_need_30 rfl (lv_at hl 2 rfl) ?_
        refine lv_iload_n E.1 E.2.1 dX1_need_31 rfl (lv_at hl 3 rfl) ?_
        refine cV_l E (As := [.int (nI b), .int (nI c)]) (rest := []) (cR_greatest l D ad ca T n kc ko kv k cd b c (by omega) (by omega)) kR_52 hK hP 0 rfl rfl rfl rfl ⟨Nat.le_of_ble_eq_true rfl, Nat.le_of_ble_eq_true rfl⟩ rfl hl.1 rfl (Nat.le_of_ble_eq_true rfl) dX1_need_32 ⟨Nat.zero_le _, Nat.zero_le _⟩ ?_
        refine lv_aload_n E.1 E.2.1 dX1_need_35 rfl (lv_at hl 1 rfl) ?_
        refine lv_iload_n E.1 E.2.1 dX1_need_36 rfl (lv_at hl 2 rfl) ?_
        refine lv_iload_n E.1 E.2.1 dX1_need_37 rfl (lv_at hl 3 rfl) ?_
        refine cV_l E (As := [.int (nI b), .int (nI c)]) (rest := [.long (mx (xb T b c) 15)]) (cR_least l D ad ca T n kc ko kv k cd b c (by omega) (by omega)) kR_48 hK hP 0 rfl rfl rfl rfl ⟨Nat.le_of_ble_eq_true rfl, Nat.le_of_ble_eq_true rfl⟩ rfl hl.1 rfl (Nat.le_of_ble_eq_true rfl) dX1_need_38 ⟨Nat.zero_le _, Nat.zero_le _⟩ ?_
        refine lv_lsub E.1 E.2.1 dX1_need_41 ?_
        refine lv_lstore (lv' := [(5, .long ((mx (xb T b c) 15) - (mn (xb T b c) 15))), (4, .int (nI (cb c))), (0, .ref (ad 0)), (1, .int (nI b)), (2, .int (nI c)), (3, .int (nI w))]) E.1 E.2.1 dX1_need_42 hl (by decide) rfl (fun ls hl => ?_)
        refine lv_iload E.1 E.2.1 dX1_need_44 (lv_at hl 1 rfl) ?_
        refine lv_bipush (v := nI 7) E.1 E.2.1 dX1_need_46 rfl ?_
        refine n_iadd E dX1_need_48 ?_
        refine lv_bipush (v := nI 16) E.1 E.2.1 dX1_need_49 rfl ?_
        refine lv_lload E.1 E.2.1 dX1_need_51 (lv_at hl 0 rfl) ?_
        refine cS_i E (As := [.long ((mx (xb T b c) 15) - (mn (xb T b c) 15))]) (rest := [.int (nI 16), .int (nI (cb c + 7))]) (cR_width l ((mx (xb T b c) 15) - (mn (xb T b c) 15))) kR_59 rfl rfl ⟨Nat.le_of_ble_eq_true rfl, Nat.le_of_ble_eq_true rfl⟩ rfl hl.1 rfl (Nat.le_of_ble_eq_true rfl) dX1_need_53 ⟨Nat.zero_le _, Nat.zero_le _⟩ ?_
        refine n_imul E dX1_need_56 ?_
        refine n_iadd E dX1_need_57 ?_
        exact e_i E hr hlk (congrArg nI (by rw [ndz, if_neg h15, if_pos h26]; rfl)) dX1_need_58
    · skip
      refine lv_bipush (v := nI 16) E.1 E.2.1 dX1_need_18 rfl ?_
      refine lv_iload E.1 E.2.1 dX1_need_20 (lv_at hl 0 rfl) ?_
      refine n_imul E dX1_need_22 ?_
      exact e_i E hr hlk (congrArg nI (by rw [ndz, if_pos h15])) dX1_need_23
  · skip
    refine lv_bipush (v := nI 64) E.1 E.2.1 dX1_need_5 rfl ?_
    refine lv_goto (tgt := 12) E.1 E.2.1 dX1_need_7 rfl ?_
    refine tpi (y := nI (cb c)) (by rw [cb, if_pos h2]) ?_
    refine lv_istore (lv' := [(4, .int (nI (cb c))), (0, .ref (ad 0)), (1, .int (nI b)), (2, .int (nI c)), (3, .int (nI w))]) E.1 E.2.1 dX1_need_12 hl (by decide) rfl (fun ls hl => ?_)
    have hcb := cb_le c
    refine lv_iload_n E.1 E.2.1 dX1_need_14 rfl (lv_at hl 4 rfl) ?_
    refine n_if_ne (tgt := 24) E dX1_need_15 rfl (by omega) (fun h15 => ?_) (fun h15 => ?_)
    · skip
      refine lv_iload_n E.1 E.2.1 dX1_need_24 rfl (lv_at hl 4 rfl) ?_
      refine lv_iconst (v := nI 3) E.1 E.2.1 dX1_need_25 rfl ?_
      refine n_icmp_ne (tgt := 59) E dX1_need_26 rfl (by omega) (by omega) (fun h26 => ?_) (fun h26 => ?_)
      · skip
        refine lv_iconst (v := nI 0) E.1 E.2.1 dX1_need_59 rfl ?_
        refine lv_istore (lv' := [(5, .int (nI 0)), (4, .int (nI (cb c))), (0, .ref (ad 0)), (1, .int (nI b)), (2, .int (nI c)), (3, .int (nI w))]) E.1 E.2.1 dX1_need_60 hl (by decide) rfl (fun ls hl => ?_)
        refine lv_iconst (v := nI 0) E.1 E.2.1 dX1_need_62 rfl ?_
        refine lv_istore (lv' := [(6, .int (nI 0)), (5, .int (nI 0)), (4, .int (nI (cb c))), (0, .ref (ad 0)), (1, .int (nI b)), (2, .int (nI c)), (3, .int (nI w))]) E.1 E.2.1 dX1_need_63 hl (by decide) rfl (fun ls hl => ?_)
        refine lv_bipush (v := nI 16) E.1 E.2.1 dX1_need_65 rfl ?_
        refine lv_iload_n E.1 E.2.1 dX1_need_67 rfl (lv_at hl 4 rfl) ?_
        refine n_imul E dX1_need_68 ?_
        refine lv_istore (lv' := [(7, .int (nI (16 * b))), (6, .int (nI 0)), (5, .int (nI 0)), (4, .int (nI (cb c))), (0, .ref (ad 0)), (1, .int (nI b)), (2, .int (nI c)), (3, .int (nI w))]) E.1 E.2.1 dX1_need_69 hl (by decide) rfl (fun ls hl => ?_)
        refine w_lp1 (fun (j : Nat) => j ≤ 16) (fun (j : Nat) => 16 - j) (fun (j : Nat) => [(7, .int (nI (16 * b + j))), (6, .int (nI (ct (fun j => al (fun q => !decide (xb T b c q = xb T b c j)) j) j))), (5, .int (nI (ct (fun j => decide (j = 0) || !decide (xb T b c (j - 1) = xb T b c j)) j))), (4, .int (nI (cb c))), (0, .ref (ad 0)), (1, .int (nI b)), (2, .int (nI c)), (3, .int (nI w))]) 0 (Nat.zero_le _) (lv_sub hl [0, 1, 2, 3, 4, 5, 6, 7] rfl) (fun j ls hI hl ih71 => ?_)
        have hl : lv_has ls 12 [(7, .int (nI (16 * b + j))), (6, .int (nI (ct (fun j => al (fun q => !decide (xb T b c q = xb T b c j)) j) j))), (5, .int (nI (ct (fun j => decide (j = 0) || !decide (xb T b c (j - 1) = xb T b c j)) j))), (4, .int (nI (cb c))), (0, .ref (ad 0)), (1, .int (nI b)), (2, .int (nI c)), (3, .int (nI w))] := hl
        refine lv_iload E.1 E.2.1 dX1_need_71 (lv_at hl 0 rfl) ?_
        refine lv_bipush (v := nI 16) E.1 E.2.1 dX1_need_73 rfl ?_
        refine lv_iload_n E.1 E.2.1 dX1_need_75 rfl (lv_at hl 5 rfl) ?_
        refine n_imul E dX1_need_76 ?_
        refine lv_bipush (v := nI 16) E.1 E.2.1 dX1_need_77 rfl ?_
        refine n_iadd E dX1_need_79 ?_
        refine n_icmp_ge (tgt := 206) E dX1_need_80 rfl (by omega) (by omega) (fun h80 => ?_) (fun h80 => ?_)
        · skip
          have e16 : j = 16 := by omega
          subst e16
          have hrr : ct (fun j => decide (j = 0) || !decide (xb T b c (j - 1) = xb T b c j)) 16 = rns (xb T b c) := rns_eq _
          have hww : ct (fun j => al (fun q => !decide (xb T b c q = xb T b c j)) j) 16 = wds (xb T b c) := wds_eq _
          rw [hrr, hww] at hl
          have hwp := wds_pos (xb T b c)
          have hwl := wds_le (xb T b c)
          refine lv_iload_n E.1 E.2.1 dX1_need_206 rfl (lv_at hl 7 rfl) ?_
          refine lv_iconst (v := nI 1) E.1 E.2.1 dX1_need_207 rfl ?_
          refine n_icmp_ne (tgt := 221) E dX1_need_208 rfl (by omega) (by omega) (fun h208 => ?_) (fun h208 => ?_)
          · skip
            refine lv_iload E.1 E.2.1 dX1_need_221 (lv_at hl 3 rfl) ?_
            refine lv_iload E.1 E.2.1 dX1_need_223 (lv_at hl 1 rfl) ?_
            refine n_imul E dX1_need_225 ?_
            refine lv_bipush (v := nI 16) E.1 E.2.1 dX1_need_226 rfl ?_
            refine lv_iload E.1 E.2.1 dX1_need_228 (lv_at hl 1 rfl) ?_
            refine n_i2l E (by omega) dX1_need_230 ?_
            refine lv_lconst (v := 1) E.1 E.2.1 dX1_need_231 rfl ?_
            refine lv_lsub E.1 E.2.1 dX1_need_232 ?_
            refine tpl (y := lN (wds (xb T b c) - 1)) (lN_sub hwp) ?_
            refine cS_i E (As := [.long (lN (wds (xb T b c) - 1))]) (rest := [.int (nI 16), .int (nI ((cb c) * (wds (xb T b c))))]) (cR_width l (lN (wds (xb T b c) - 1))) kR_59 rfl rfl ⟨Nat.le_of_ble_eq_true rfl, Nat.le_of_ble_eq_true rfl⟩ rfl hl.1 rfl (Nat.le_of_ble_eq_true rfl) dX1_need_233 ⟨Nat.zero_le _, Nat.zero_le _⟩ ?_
            refine n_imul E dX1_need_236 ?_
            refine n_iadd E dX1_need_237 ?_
            exact e_i E hr hlk (congrArg nI (by rw [ndz, if_neg h15, if_neg h26, if_neg h208, zW, Nat.mul_comm (cb c)])) dX1_need_238
          · skip
            refine lv_iload E.1 E.2.1 dX1_need_211 (lv_at hl 3 rfl) ?_
            refine lv_iconst (v := nI 5) E.1 E.2.1 dX1_need_213 rfl ?_
            refine n_iadd E dX1_need_214 ?_
            refine lv_iload E.1 E.2.1 dX1_need_215 (lv_at hl 2 rfl) ?_
            refine n_imul E dX1_need_217 ?_
            refine lv_goto (tgt := 238) E.1 E.2.1 dX1_need_218 rfl ?_
            exact e_i E hr hlk (congrArg nI (by rw [ndz, if_neg h15, if_neg h26, if_pos h208, zR, Nat.mul_comm])) dX1_need_238
        · skip
          refine lv_aload_n E.1 E.2.1 dX1_need_83 rfl (lv_at hl 4 rfl) ?_
          refine n_get E inR hK hP 0 rfl rfl 2 (by decide) flR_7 rfl rfl dX1_need_84 ?_
          refine lv_iconst (v := nI 4) E.1 E.2.1 dX1_need_87 rfl ?_
          refine lv_iload E.1 E.2.1 dX1_need_88 (lv_at hl 0 rfl) ?_
          refine n_imul E dX1_need_90 ?_
          refine lv_iload_n E.1 E.2.1 dX1_need_91 rfl (lv_at hl 6 rfl) ?_
          refine n_iadd E dX1_need_92 ?_
          refine n_rald E hK hP 1 0 rfl rfl (16 * b + j) c (by omega) (by omega) (by omega) dX1_need_93 ?_
          refine lv_lstore (lv' := [(8, .long (T (16 * b + j) c)), (7, .int (nI (16 * b + j))), (6, .int (nI (ct (fun j => al (fun q => !decide (xb T b c q = xb T b c j)) j) j))), (5, .int (nI (ct (fun j => decide (j = 0) || !decide (xb T b c (j - 1) = xb T b c j)) j))), (4, .int (nI (cb c))), (0, .ref (ad 0)), (1, .int (nI b)), (2, .int (nI c)), (3, .int (nI w))]) E.1 E.2.1 dX1_need_94 hl (by decide) rfl (fun ls hl => ?_)
          refine lv_iconst (v := nI 1) E.1 E.2.1 dX1_need_96 rfl ?_
          refine lv_istore (lv' := [(10, .int (nI 1)), (8, .long (T (16 * b + j) c)), (7, .int (nI (16 * b + j))), (6, .int (nI (ct (fun j => al (fun q => !decide (xb T b c q = xb T b c j)) j) j))), (5, .int (nI (ct (fun j => decide (j = 0) || !decide (xb T b c (j - 1) = xb T b c j)) j))), (4, .int (nI (cb c))), (0, .ref (ad 0)), (1, .int (nI b)), (2, .int (nI c)), (3, .int (nI w))]) E.1 E.2.1 dX1_need_97 hl (by decide) rfl (fun ls hl => ?_)
          refine lv_bipush (v := nI 16) E.1 E.2.1 dX1_need_99 rfl ?_
          refine lv_iload_n E.1 E.2.1 dX1_need_101 rfl (lv_at hl 7 rfl) ?_
          refine n_imul E dX1_need_102 ?_
          refine lv_istore (lv' := [(11, .int (nI (16 * b))), (10, .int (nI 1)), (8, .long (T (16 * b + j) c)), (7, .int (nI (16 * b + j))), (6, .int (nI (ct (fun j => al (fun q => !decide (xb T b c q = xb T b c j)) j) j))), (5, .int (nI (ct (fun j => decide (j = 0) || !decide (xb T b c (j - 1) = xb T b c j)) j))), (4, .int (nI (cb c))), (0, .ref (ad 0)), (1, .int (nI b)), (2, .int (nI c)), (3, .int (nI w))]) E.1 E.2.1 dX1_need_103 hl (by decide) rfl (fun ls hl => ?_)
          refine w_lp1 (fun (i : Nat) => i ≤ j) (fun (i : Nat) => j - i) (fun (i : Nat) => [(11, .int (nI (16 * b + i))), (10, .int (bI (al (fun q => !decide (xb T b c q = xb T b c j)) i))), (7, .int (nI (16 * b + j))), (8, .long (T (16 * b + j) c)), (6, .int (nI (ct (fun j => al (fun q => !decide (xb T b c q = xb T b c j)) j) j))), (5, .int (nI (ct (fun j => decide (j = 0) || !decide (xb T b c (j - 1) = xb T b c j)) j))), (4, .int (nI (cb c))), (0, .ref (ad 0)), (1, .int (nI b)), (2, .int (nI c)), (3, .int (nI w))]) 0 (Nat.zero_le _) (lv_sub hl [0, 1, 3, 2, 4, 5, 6, 7, 8, 9, 10] rfl) (fun i ls hI hl ih105 => ?_)
          have hl : lv_has ls 12 [(11, .int (nI (16 * b + i))), (10, .int (bI (al (fun q => !decide (xb T b c q = xb T b c j)) i))), (7, .int (nI (16 * b + j))), (8, .long (T (16 * b + j) c)), (6, .int (nI (ct (fun j => al (fun q => !decide (xb T b c q = xb T b c j)) j) j))), (5, .int (nI (ct (fun j => decide (j = 0) || !decide (xb T b c (j - 1) = xb T b c j)) j))), (4, .int (nI (cb c))), (0, .ref (ad 0)), (1, .int (nI b)), (2, .int (nI c)), (3, .int (nI w))] := hl
          refine lv_iload E.1 E.2.1 dX1_need_105 (lv_at hl 0 rfl) ?_
          refine lv_iload E.1 E.2.1 dX1_need_107 (lv_at hl 2 rfl) ?_
          refine n_icmp_ge (tgt := 147) E dX1_need_109 rfl (by omega) (by omega) (fun h109 => ?_) (fun h109 => ?_)
          · skip
            have e9 : i = j := by omega
            rw [e9] at hl
            refine lv_iload E.1 E.2.1 dX1_need_147 (lv_at hl 4 rfl) ?_
            refine lv_iload E.1 E.2.1 dX1_need_149 (lv_at hl 1 rfl) ?_
            refine b_if_eq (tgt := 158) E dX1_need_151 rfl (fun h151 => ?_) (fun h151 => ?_)
            · skip
              refine lv_iconst (v := nI 0) E.1 E.2.1 dX1_need_158 rfl ?_
              refine n_iadd E dX1_need_159 ?_
              refine tpi (y := nI (ct (fun j => al (fun q => !decide (xb T b c q = xb T b c j)) j) (j + 1))) (congrArg nI (ct_f (p := (fun j => al (fun q => !decide (xb T b c q = xb T b c j)) j)) h151).symm) ?_
              refine lv_istore (lv' := [(6, .int (nI (ct (fun j => al (fun q => !decide (xb T b c q = xb T b c j)) j) (j + 1)))), (11, .int (nI (16 * b + j))), (10, .int (bI (al (fun q => !decide (xb T b c q = xb T b c j)) j))), (7, .int (nI (16 * b + j))), (8, .long (T (16 * b + j) c)), (5, .int (nI (ct (fun j => decide (j = 0) || !decide (xb T b c (j - 1) = xb T b c j)) j))), (4, .int (nI (cb c))), (0, .ref (ad 0)), (1, .int (nI b)), (2, .int (nI c)), (3, .int (nI w))]) E.1 E.2.1 dX1_need_160 hl (by decide) rfl (fun ls hl => ?_)
              refine lv_iload E.1 E.2.1 dX1_need_162 (lv_at hl 5 rfl) ?_
              refine lv_iload E.1 E.2.1 dX1_need_164 (lv_at hl 3 rfl) ?_
              refine lv_bipush (v := nI 16) E.1 E.2.1 dX1_need_166 rfl ?_
              refine lv_iload_n E.1 E.2.1 dX1_need_168 rfl (lv_at hl 8 rfl) ?_
              refine n_imul E dX1_need_169 ?_
              refine n_icmp_eq (tgt := 192) E dX1_need_170 rfl (by omega) (by omega) (fun h170 => ?_) (fun h170 => ?_)
              · skip
                refine lv_iconst (v := nI 1) E.1 E.2.1 dX1_need_192 rfl ?_
                refine lv_goto (tgt := 197) E.1 E.2.1 dX1_need_193 rfl ?_
                refine n_iadd E dX1_need_197 ?_
                refine tpi (y := nI (ct (fun j => decide (j = 0) || !decide (xb T b c (j - 1) = xb T b c j)) (j + 1))) (congrArg nI (ct_t (p := (fun j => decide (j = 0) || !decide (xb T b c (j - 1) = xb T b c j))) (by simp [show j = 0 by omega])).symm) ?_
                refine lv_istore (lv' := [(5, .int (nI (ct (fun j => decide (j = 0) || !decide (xb T b c (j - 1) = xb T b c j)) (j + 1)))), (6, .int (nI (ct (fun j => al (fun q => !decide (xb T b c q = xb T b c j)) j) (j + 1)))), (11, .int (nI (16 * b + j))), (10, .int (bI (al (fun q => !decide (xb T b c q = xb T b c j)) j))), (7, .int (nI (16 * b + j))), (8, .long (T (16 * b + j) c)), (4, .int (nI (cb c))), (0, .ref (ad 0)), (1, .int (nI b)), (2, .int (nI c)), (3, .int (nI w))]) E.1 E.2.1 dX1_need_198 hl (by decide) rfl (fun ls hl => ?_)
                refine lv_iinc (k := 4) (v := nI (16 * b + j + 1)) (lv' := [(7, .int (nI (16 * b + j + 1))), (5, .int (nI (ct (fun j => decide (j = 0) || !decide (xb T b c (j - 1) = xb T b c j)) (j + 1)))), (6, .int (nI (ct (fun j => al (fun q => !decide (xb T b c q = xb T b c j)) j) (j + 1)))), (11, .int (nI (16 * b + j))), (10, .int (bI (al (fun q => !decide (xb T b c q = xb T b c j)) j))), (8, .long (T (16 * b + j) c)), (4, .int (nI (cb c))), (0, .ref (ad 0)), (1, .int (nI b)), (2, .int (nI c)), (3, .int (nI w))]) E.1 E.2.1 dX1_need_200 hl rfl (inc1 _) (by decide) rfl (fun ls hl => ?_)
                refine lv_goto (tgt := 71) E.1 E.2.1 dX1_need_203 rfl ?_
                exact ih71 (j + 1) _ (by omega) (by omega) (lv_sub hl [0, 2, 1, 6, 7, 8, 9, 10] rfl)
              · skip
                refine lv_aload_n E.1 E.2.1 dX1_need_173 rfl (lv_at hl 7 rfl) ?_
                refine n_get E inR hK hP 0 rfl rfl 2 (by decide) flR_7 rfl rfl dX1_need_174 ?_
                refine lv_iconst (v := nI 4) E.1 E.2.1 dX1_need_177 rfl ?_
                refine lv_iload E.1 E.2.1 dX1_need_178 (lv_at hl 3 rfl) ?_
                refine n_imul E dX1_need_180 ?_
                refine lv_iconst (v := nI 4) E.1 E.2.1 dX1_need_181 rfl ?_
                refine n_isub E (by omega) dX1_need_182 ?_
                refine lv_iload_n E.1 E.2.1 dX1_need_183 rfl (lv_at hl 9 rfl) ?_
                refine n_iadd E dX1_need_184 ?_
                refine n_rald E hK hP 1 0 rfl rfl (16 * b + (j - 1)) c (by omega) (by omega) (by omega) dX1_need_185 ?_
                refine lv_lload E.1 E.2.1 dX1_need_186 (lv_at hl 4 rfl) ?_
                refine l_if_eq (tgt := 196) E dX1_need_188 dX1_need_189 rfl (fun h188 => ?_) (fun h188 => ?_)
                · skip
                  refine lv_iconst (v := nI 0) E.1 E.2.1 dX1_need_196 rfl ?_
                  refine n_iadd E dX1_need_197 ?_
                  refine tpi (y := nI (ct (fun j => decide (j = 0) || !decide (xb T b c (j - 1) = xb T b c j)) (j + 1))) (congrArg nI (ct_f (p := (fun j => decide (j = 0) || !decide (xb T b c (j - 1) = xb T b c j))) (by rw [nd_t (show xb T b c (j - 1) = xb T b c j from h188), decide_eq_false (show ¬ j = 0 by omega)]; rfl)).symm) ?_
                  refine lv_istore (lv' := [(5, .int (nI (ct (fun j => decide (j = 0) || !decide (xb T b c (j - 1) = xb T b c j)) (j + 1)))), (6, .int (nI (ct (fun j => al (fun q => !decide (xb T b c q = xb T b c j)) j) (j + 1)))), (11, .int (nI (16 * b + j))), (10, .int (bI (al (fun q => !decide (xb T b c q = xb T b c j)) j))), (7, .int (nI (16 * b + j))), (8, .long (T (16 * b + j) c)), (4, .int (nI (cb c))), (0, .ref (ad 0)), (1, .int (nI b)), (2, .int (nI c)), (3, .int (nI w))]) E.1 E.2.1 dX1_need_198 hl (by decide) rfl (fun ls hl => ?_)
                  refine lv_iinc (k := 4) (v := nI (16 * b + j + 1)) (lv' := [(7, .int (nI (16 * b + j + 1))), (5, .int (nI (ct (fun j => decide (j = 0) || !decide (xb T b c (j - 1) = xb T b c j)) (j + 1)))), (6, .int (nI (ct (fun j => al (fun q => !decide (xb T b c q = xb T b c j)) j) (j + 1)))), (11, .int (nI (16 * b + j))), (10, .int (bI (al (fun q => !decide (xb T b c q = xb T b c j)) j))), (8, .long (T (16 * b + j) c)), (4, .int (nI (cb c))), (0, .ref (ad 0)), (1, .int (nI b)), (2, .int (nI c)), (3, .int (nI w))]) E.1 E.2.1 dX1_need_200 hl rfl (inc1 _) (by decide) rfl (fun ls hl => ?_)
                  refine lv_goto (tgt := 71) E.1 E.2.1 dX1_need_203 rfl ?_
                  exact ih71 (j + 1) _ (by omega) (by omega) (lv_sub hl [0, 2, 1, 6, 7, 8, 9, 10] rfl)
                · skip
                  refine lv_iconst (v := nI 1) E.1 E.2.1 dX1_need_192 rfl ?_
                  refine lv_goto (tgt := 197) E.1 E.2.1 dX1_need_193 rfl ?_
                  refine n_iadd E dX1_need_197 ?_
                  refine tpi (y := nI (ct (fun j => decide (j = 0) || !decide (xb T b c (j - 1) = xb T b c j)) (j + 1))) (congrArg nI (ct_t (p := (fun j => decide (j = 0) || !decide (xb T b c (j - 1) = xb T b c j))) (by rw [nd_f (show ¬ xb T b c (j - 1) = xb T b c j from h188), Bool.or_true])).symm) ?_
                  refine lv_istore (lv' := [(5, .int (nI (ct (fun j => decide (j = 0) || !decide (xb T b c (j - 1) = xb T b c j)) (j + 1)))), (6, .int (nI (ct (fun j => al (fun q => !decide (xb T b c q = xb T b c j)) j) (j + 1)))), (11, .int (nI (16 * b + j))), (10, .int (bI (al (fun q => !decide (xb T b c q = xb T b c j)) j))), (7, .int (nI (16 * b + j))), (8, .long (T (16 * b + j) c)), (4, .int (nI (cb c))), (0, .ref (ad 0)), (1, .int (nI b)), (2, .int (nI c)), (3, .int (nI w))]) E.1 E.2.1 dX1_need_198 hl (by decide) rfl (fun ls hl => ?_)
                  refine lv_iinc (k := 4) (v := nI (16 * b + j + 1)) (lv' := [(7, .int (nI (16 * b + j + 1))), (5, .int (nI (ct (fun j => decide (j = 0) || !decide (xb T b c (j - 1) = xb T b c j)) (j + 1)))), (6, .int (nI (ct (fun j => al (fun q => !decide (xb T b c q = xb T b c j)) j) (j + 1)))), (11, .int (nI (16 * b + j))), (10, .int (bI (al (fun q => !decide (xb T b c q = xb T b c j)) j))), (8, .long (T (16 * b + j) c)), (4, .int (nI (cb c))), (0, .ref (ad 0)), (1, .int (nI b)), (2, .int (nI c)), (3, .int (nI w))]) E.1 E.2.1 dX1_need_200 hl rfl (inc1 _) (by decide) rfl (fun ls hl => ?_)
                  refine lv_goto (tgt := 71) E.1 E.2.1 dX1_need_203 rfl ?_
                  exact ih71 (j + 1) _ (by omega) (by omega) (lv_sub hl [0, 2, 1, 6, 7, 8, 9, 10] rfl)
            · skip
              refine lv_iconst (v := nI 1) E.1 E.2.1 dX1_need_154 rfl ?_
              refine lv_goto (tgt := 159) E.1 E.2.1 dX1_need_155 rfl ?_
              refine n_iadd E dX1_need_159 ?_
              refine tpi (y := nI (ct (fun j => al (fun q => !decide (xb T b c q = xb T b c j)) j) (j + 1))) (congrArg nI (ct_t (p := (fun j => al (fun q => !decide (xb T b c q = xb T b c j)) j)) h151).symm) ?_
              refine lv_istore (lv' := [(6, .int (nI (ct (fun j => al (fun q => !decide (xb T b c q = xb T b c j)) j) (j + 1)))), (11, .int (nI (16 * b + j))), (10, .int (bI (al (fun q => !decide (xb T b c q = xb T b c j)) j))), (7, .int (nI (16 * b + j))), (8, .long (T (16 * b + j) c)), (5, .int (nI (ct (fun j => decide (j = 0) || !decide (xb T b c (j - 1) = xb T b c j)) j))), (4, .int (nI (cb c))), (0, .ref (ad 0)), (1, .int (nI b)), (2, .int (nI c)), (3, .int (nI w))]) E.1 E.2.1 dX1_need_160 hl (by decide) rfl (fun ls hl => ?_)
              refine lv_iload E.1 E.2.1 dX1_need_162 (lv_at hl 5 rfl) ?_
              refine lv_iload E.1 E.2.1 dX1_need_164 (lv_at hl 3 rfl) ?_
              refine lv_bipush (v := nI 16) E.1 E.2.1 dX1_need_166 rfl ?_
              refine lv_iload_n E.1 E.2.1 dX1_need_168 rfl (lv_at hl 8 rfl) ?_
              refine n_imul E dX1_need_169 ?_
              refine n_icmp_eq (tgt := 192) E dX1_need_170 rfl (by omega) (by omega) (fun h170 => ?_) (fun h170 => ?_)
              · skip
                refine lv_iconst (v := nI 1) E.1 E.2.1 dX1_need_192 rfl ?_
                refine lv_goto (tgt := 197) E.1 E.2.1 dX1_need_193 rfl ?_
                refine n_iadd E dX1_need_197 ?_
                refine tpi (y := nI (ct (fun j => decide (j = 0) || !decide (xb T b c (j - 1) = xb T b c j)) (j + 1))) (congrArg nI (ct_t (p := (fun j => decide (j = 0) || !decide (xb T b c (j - 1) = xb T b c j))) (by simp [show j = 0 by omega])).symm) ?_
                refine lv_istore (lv' := [(5, .int (nI (ct (fun j => decide (j = 0) || !decide (xb T b c (j - 1) = xb T b c j)) (j + 1)))), (6, .int (nI (ct (fun j => al (fun q => !decide (xb T b c q = xb T b c j)) j) (j + 1)))), (11, .int (nI (16 * b + j))), (10, .int (bI (al (fun q => !decide (xb T b c q = xb T b c j)) j))), (7, .int (nI (16 * b + j))), (8, .long (T (16 * b + j) c)), (4, .int (nI (cb c))), (0, .ref (ad 0)), (1, .int (nI b)), (2, .int (nI c)), (3, .int (nI w))]) E.1 E.2.1 dX1_need_198 hl (by decide) rfl (fun ls hl => ?_)
                refine lv_iinc (k := 4) (v := nI (16 * b + j + 1)) (lv' := [(7, .int (nI (16 * b + j + 1))), (5, .int (nI (ct (fun j => decide (j = 0) || !decide (xb T b c (j - 1) = xb T b c j)) (j + 1)))), (6, .int (nI (ct (fun j => al (fun q => !decide (xb T b c q = xb T b c j)) j) (j + 1)))), (11, .int (nI (16 * b + j))), (10, .int (bI (al (fun q => !decide (xb T b c q = xb T b c j)) j))), (8, .long (T (16 * b + j) c)), (4, .int (nI (cb c))), (0, .ref (ad 0)), (1, .int (nI b)), (2, .int (nI c)), (3, .int (nI w))]) E.1 E.2.1 dX1_need_200 hl rfl (inc1 _) (by decide) rfl (fun ls hl => ?_)
                refine lv_goto (tgt := 71) E.1 E.2.1 dX1_need_203 rfl ?_
                exact ih71 (j + 1) _ (by omega) (by omega) (lv_sub hl [0, 2, 1, 6, 7, 8, 9, 10] rfl)
              · skip
                refine lv_aload_n E.1 E.2.1 dX1_need_173 rfl (lv_at hl 7 rfl) ?_
                refine n_get E inR hK hP 0 rfl rfl 2 (by decide) flR_7 rfl rfl dX1_need_174 ?_
                refine lv_iconst (v := nI 4) E.1 E.2.1 dX1_need_177 rfl ?_
                refine lv_iload E.1 E.2.1 dX1_need_178 (lv_at hl 3 rfl) ?_
                refine n_imul E dX1_need_180 ?_
                refine lv_iconst (v := nI 4) E.1 E.2.1 dX1_need_181 rfl ?_
                refine n_isub E (by omega) dX1_need_182 ?_
                refine lv_iload_n E.1 E.2.1 dX1_need_183 rfl (lv_at hl 9 rfl) ?_
                refine n_iadd E dX1_need_184 ?_
                refine n_rald E hK hP 1 0 rfl rfl (16 * b + (j - 1)) c (by omega) (by omega) (by omega) dX1_need_185 ?_
                refine lv_lload E.1 E.2.1 dX1_need_186 (lv_at hl 4 rfl) ?_
                refine l_if_eq (tgt := 196) E dX1_need_188 dX1_need_189 rfl (fun h188 => ?_) (fun h188 => ?_)
                · skip
                  refine lv_iconst (v := nI 0) E.1 E.2.1 dX1_need_196 rfl ?_
                  refine n_iadd E dX1_need_197 ?_
                  refine tpi (y := nI (ct (fun j => decide (j = 0) || !decide (xb T b c (j - 1) = xb T b c j)) (j + 1))) (congrArg nI (ct_f (p := (fun j => decide (j = 0) || !decide (xb T b c (j - 1) = xb T b c j))) (by rw [nd_t (show xb T b c (j - 1) = xb T b c j from h188), decide_eq_false (show ¬ j = 0 by omega)]; rfl)).symm) ?_
                  refine lv_istore (lv' := [(5, .int (nI (ct (fun j => decide (j = 0) || !decide (xb T b c (j - 1) = xb T b c j)) (j + 1)))), (6, .int (nI (ct (fun j => al (fun q => !decide (xb T b c q = xb T b c j)) j) (j + 1)))), (11, .int (nI (16 * b + j))), (10, .int (bI (al (fun q => !decide (xb T b c q = xb T b c j)) j))), (7, .int (nI (16 * b + j))), (8, .long (T (16 * b + j) c)), (4, .int (nI (cb c))), (0, .ref (ad 0)), (1, .int (nI b)), (2, .int (nI c)), (3, .int (nI w))]) E.1 E.2.1 dX1_need_198 hl (by decide) rfl (fun ls hl => ?_)
                  refine lv_iinc (k := 4) (v := nI (16 * b + j + 1)) (lv' := [(7, .int (nI (16 * b + j + 1))), (5, .int (nI (ct (fun j => decide (j = 0) || !decide (xb T b c (j - 1) = xb T b c j)) (j + 1)))), (6, .int (nI (ct (fun j => al (fun q => !decide (xb T b c q = xb T b c j)) j) (j + 1)))), (11, .int (nI (16 * b + j))), (10, .int (bI (al (fun q => !decide (xb T b c q = xb T b c j)) j))), (8, .long (T (16 * b + j) c)), (4, .int (nI (cb c))), (0, .ref (ad 0)), (1, .int (nI b)), (2, .int (nI c)), (3, .int (nI w))]) E.1 E.2.1 dX1_need_200 hl rfl (inc1 _) (by decide) rfl (fun ls hl => ?_)
                  refine lv_goto (tgt := 71) E.1 E.2.1 dX1_need_203 rfl ?_
                  exact ih71 (j + 1) _ (by omega) (by omega) (lv_sub hl [0, 2, 1, 6, 7, 8, 9, 10] rfl)
                · skip
                  refine lv_iconst (v := nI 1) E.1 E.2.1 dX1_need_192 rfl ?_
                  refine lv_goto (tgt := 197) E.1 E.2.1 dX1_need_193 rfl ?_
                  refine n_iadd E dX1_need_197 ?_
                  refine tpi (y := nI (ct (fun j => decide (j = 0) || !decide (xb T b c (j - 1) = xb T b c j)) (j + 1))) (congrArg nI (ct_t (p := (fun j => decide (j = 0) || !decide (xb T b c (j - 1) = xb T b c j))) (by rw [nd_f (show ¬ xb T b c (j - 1) = xb T b c j from h188), Bool.or_true])).symm) ?_
                  refine lv_istore (lv' := [(5, .int (nI (ct (fun j => decide (j = 0) || !decide (xb T b c (j - 1) = xb T b c j)) (j + 1)))), (6, .int (nI (ct (fun j => al (fun q => !decide (xb T b c q = xb T b c j)) j) (j + 1)))), (11, .int (nI (16 * b + j))), (10, .int (bI (al (fun q => !decide (xb T b c q = xb T b c j)) j))), (7, .int (nI (16 * b + j))), (8, .long (T (16 * b + j) c)), (4, .int (nI (cb c))), (0, .ref (ad 0)), (1, .int (nI b)), (2, .int (nI c)), (3, .int (nI w))]) E.1 E.2.1 dX1_need_198 hl (by decide) rfl (fun ls hl => ?_)
                  refine lv_iinc (k := 4) (v := nI (16 * b + j + 1)) (lv' := [(7, .int (nI (16 * b + j + 1))), (5, .int (nI (ct (fun j => decide (j = 0) || !decide (xb T b c (j - 1) = xb T b c j)) (j + 1)))), (6, .int (nI (ct (fun j => al (fun q => !decide (xb T b c q = xb T b c j)) j) (j + 1)))), (11, .int (nI (16 * b + j))), (10, .int (bI (al (fun q => !decide (xb T b c q = xb T b c j)) j))), (8, .long (T (16 * b + j) c)), (4, .int (nI (cb c))), (0, .ref (ad 0)), (1, .int (nI b)), (2, .int (nI c)), (3, .int (nI w))]) E.1 E.2.1 dX1_need_200 hl rfl (inc1 _) (by decide) rfl (fun ls hl => ?_)
                  refine lv_goto (tgt := 71) E.1 E.2.1 dX1_need_203 rfl ?_
                  exact ih71 (j + 1) _ (by omega) (by omega) (lv_sub hl [0, 2, 1, 6, 7, 8, 9, 10] rfl)
          · skip
            refine lv_iload E.1 E.2.1 dX1_need_112 (lv_at hl 1 rfl) ?_
            refine b_if_eq (tgt := 138) E dX1_need_114 rfl (fun h114 => ?_) (fun h114 => ?_)
            · skip
              refine lv_iconst (v := nI 0) E.1 E.2.1 dX1_need_138 rfl ?_
              refine tpi (y := bI (al (fun q => !decide (xb T b c q = xb T b c j)) (i + 1))) (congrArg bI (al2 h114 rfl).symm) ?_
              refine lv_istore (lv' := [(10, .int (bI (al (fun q => !decide (xb T b c q = xb T b c j)) (i + 1)))), (11, .int (nI (16 * b + i))), (7, .int (nI (16 * b + j))), (8, .long (T (16 * b + j) c)), (6, .int (nI (ct (fun j => al (fun q => !decide (xb T b c q = xb T b c j)) j) j))), (5, .int (nI (ct (fun j => decide (j = 0) || !decide (xb T b c (j - 1) = xb T b c j)) j))), (4, .int (nI (cb c))), (0, .ref (ad 0)), (1, .int (nI b)), (2, .int (nI c)), (3, .int (nI w))]) E.1 E.2.1 dX1_need_139 hl (by decide) rfl (fun ls hl => ?_)
              refine lv_iinc (k := 1) (v := nI (16 * b + i + 1)) (lv' := [(11, .int (nI (16 * b + i + 1))), (10, .int (bI (al (fun q => !decide (xb T b c q = xb T b c j)) (i + 1)))), (7, .int (nI (16 * b + j))), (8, .long (T (16 * b + j) c)), (6, .int (nI (ct (fun j => al (fun q => !decide (xb T b c q = xb T b c j)) j) j))), (5, .int (nI (ct (fun j => decide (j = 0) || !decide (xb T b c (j - 1) = xb T b c j)) j))), (4, .int (nI (cb c))), (0, .ref (ad 0)), (1, .int (nI b)), (2, .int (nI c)), (3, .int (nI w))]) E.1 E.2.1 dX1_need_141 hl rfl (inc1 _) (by decide) rfl (fun ls hl => ?_)
              refine lv_goto (tgt := 105) E.1 E.2.1 dX1_need_144 rfl ?_
              exact ih105 (i + 1) _ (by omega) (by omega) (lv_sub hl [0, 1, 2, 3, 4, 5, 6, 7, 8, 9, 10] rfl)
            · skip
              refine lv_aload_n E.1 E.2.1 dX1_need_117 rfl (lv_at hl 7 rfl) ?_
              refine n_get E inR hK hP 0 rfl rfl 2 (by decide) flR_7 rfl rfl dX1_need_118 ?_
              refine lv_iconst (v := nI 4) E.1 E.2.1 dX1_need_121 rfl ?_
              refine lv_iload E.1 E.2.1 dX1_need_122 (lv_at hl 0 rfl) ?_
              refine n_imul E dX1_need_124 ?_
              refine lv_iload_n E.1 E.2.1 dX1_need_125 rfl (lv_at hl 9 rfl) ?_
              refine n_iadd E dX1_need_126 ?_
              refine n_rald E hK hP 1 0 rfl rfl (16 * b + i) c (by omega) (by omega) (by omega) dX1_need_127 ?_
              refine lv_lload E.1 E.2.1 dX1_need_128 (lv_at hl 3 rfl) ?_
              refine l_if_eq (tgt := 138) E dX1_need_130 dX1_need_131 rfl (fun h130 => ?_) (fun h130 => ?_)
              · skip
                refine lv_iconst (v := nI 0) E.1 E.2.1 dX1_need_138 rfl ?_
                refine tpi (y := bI (al (fun q => !decide (xb T b c q = xb T b c j)) (i + 1))) (congrArg bI (al2 h114 (nd_t h130)).symm) ?_
                refine lv_istore (lv' := [(10, .int (bI (al (fun q => !decide (xb T b c q = xb T b c j)) (i + 1)))), (11, .int (nI (16 * b + i))), (7, .int (nI (16 * b + j))), (8, .long (T (16 * b + j) c)), (6, .int (nI (ct (fun j => al (fun q => !decide (xb T b c q = xb T b c j)) j) j))), (5, .int (nI (ct (fun j => decide (j = 0) || !decide (xb T b c (j - 1) = xb T b c j)) j))), (4, .int (nI (cb c))), (0, .ref (ad 0)), (1, .int (nI b)), (2, .int (nI c)), (3, .int (nI w))]) E.1 E.2.1 dX1_need_139 hl (by decide) rfl (fun ls hl => ?_)
                refine lv_iinc (k := 1) (v := nI (16 * b + i + 1)) (lv' := [(11, .int (nI (16 * b + i + 1))), (10, .int (bI (al (fun q => !decide (xb T b c q = xb T b c j)) (i + 1)))), (7, .int (nI (16 * b + j))), (8, .long (T (16 * b + j) c)), (6, .int (nI (ct (fun j => al (fun q => !decide (xb T b c q = xb T b c j)) j) j))), (5, .int (nI (ct (fun j => decide (j = 0) || !decide (xb T b c (j - 1) = xb T b c j)) j))), (4, .int (nI (cb c))), (0, .ref (ad 0)), (1, .int (nI b)), (2, .int (nI c)), (3, .int (nI w))]) E.1 E.2.1 dX1_need_141 hl rfl (inc1 _) (by decide) rfl (fun ls hl => ?_)
                refine lv_goto (tgt := 105) E.1 E.2.1 dX1_need_144 rfl ?_
                exact ih105 (i + 1) _ (by omega) (by omega) (lv_sub hl [0, 1, 2, 3, 4, 5, 6, 7, 8, 9, 10] rfl)
              · skip
                refine lv_iconst (v := nI 1) E.1 E.2.1 dX1_need_134 rfl ?_
                refine lv_goto (tgt := 139) E.1 E.2.1 dX1_need_135 rfl ?_
                refine tpi (y := bI (al (fun q => !decide (xb T b c q = xb T b c j)) (i + 1))) (congrArg bI (al2 h114 (nd_f h130)).symm) ?_
                refine lv_istore (lv' := [(10, .int (bI (al (fun q => !decide (xb T b c q = xb T b c j)) (i + 1)))), (11, .int (nI (16 * b + i))), (7, .int (nI (16 * b + j))), (8, .long (T (16 * b + j) c)), (6, .int (nI (ct (fun j => al (fun q => !decide (xb T b c q = xb T b c j)) j) j))), (5, .int (nI (ct (fun j => decide (j = 0) || !decide (xb T b c (j - 1) = xb T b c j)) j))), (4, .int (nI (cb c))), (0, .ref (ad 0)), (1, .int (nI b)), (2, .int (nI c)), (3, .int (nI w))]) E.1 E.2.1 dX1_need_139 hl (by decide) rfl (fun ls hl => ?_)
                refine lv_iinc (k := 1) (v := nI (16 * b + i + 1)) (lv' := [(11, .int (nI (16 * b + i + 1))), (10, .int (bI (al (fun q => !decide (xb T b c q = xb T b c j)) (i + 1)))), (7, .int (nI (16 * b + j))), (8, .long (T (16 * b + j) c)), (6, .int (nI (ct (fun j => al (fun q => !decide (xb T b c q = xb T b c j)) j) j))), (5, .int (nI (ct (fun j => decide (j = 0) || !decide (xb T b c (j - 1) = xb T b c j)) j))), (4, .int (nI (cb c))), (0, .ref (ad 0)), (1, .int (nI b)), (2, .int (nI c)), (3, .int (nI w))]) E.1 E.2.1 dX1_need_141 hl rfl (inc1 _) (by decide) rfl (fun ls hl => ?_)
                refine lv_goto (tgt := 105) E.1 E.2.1 dX1_need_144 rfl ?_
                exact ih105 (i + 1) _ (by omega) (by omega) (lv_sub hl [0, 1, 2, 3, 4, 5, 6, 7, 8, 9, 10] rfl)
      · skip
        refine lv_aload_n E.1 E.2.1 dX1_need_29 rfl (lv_at hl 1 rfl) ?_
        refine lv_iload_n E.1 E.2.1 dX1_need_30 rfl (lv_at hl 2 rfl) ?_
        refine lv_iload_n E.1 E.2.1 dX1_need_31 rfl (lv_at hl 3 rfl) ?_
        refine cV_l E (As := [.int (nI b), .int (nI c)]) (rest := []) (cR_greatest l D ad ca T n kc ko kv k cd b c (by omega) (by omega)) kR_52 hK hP 0 rfl rfl rfl rfl ⟨Nat.le_of_ble_eq_true rfl, Nat.le_of_ble_eq_true rfl⟩ rfl hl.1 rfl (Nat.le_of_ble_eq_true rfl) dX1_need_32 ⟨Nat.zero_le _, Nat.zero_le _⟩ ?_
        refine lv_aload_n E.1 E.2.1 dX1_need_35 rfl (lv_at hl 1 rfl) ?_
        refine lv_iload_n E.1 E.2.1 dX1_need_36 rfl (lv_at hl 2 rfl) ?_
        refine lv_iload_n E.1 E.2.1 dX1_need_37 rfl (lv_at hl 3 rfl) ?_
        refine cV_l E (As := [.int (nI b), .int (nI c)]) (rest := [.long (mx (xb T b c) 15)]) (cR_least l D ad ca T n kc ko kv k cd b c (by omega) (by omega)) kR_48 hK hP 0 rfl rfl rfl rfl ⟨Nat.le_of_ble_eq_true rfl, Nat.le_of_ble_eq_true rfl⟩ rfl hl.1 rfl (Nat.le_of_ble_eq_true rfl) dX1_need_38 ⟨Nat.zero_le _, Nat.zero_le _⟩ ?_
        refine lv_lsub E.1 E.2.1 dX1_need_41 ?_
        refine lv_lstore (lv' := [(5, .long ((mx (xb T b c) 15) - (mn (xb T b c) 15))), (4, .int (nI (cb c))), (0, .ref (ad 0)), (1, .int (nI b)), (2, .int (nI c)), (3, .int (nI w))]) E.1 E.2.1 dX1_need_42 hl (by decide) rfl (fun ls hl => ?_)
        refine lv_iload E.1 E.2.1 dX1_need_44 (lv_at hl 1 rfl) ?_
        refine lv_bipush (v := nI 7) E.1 E.2.1 dX1_need_46 rfl ?_
        refine n_iadd E dX1_need_48 ?_
        refine lv_bipush (v := nI 16) E.1 E.2.1 dX1_need_49 rfl ?_
        refine lv_lload E.1 E.2.1 dX1_need_51 (lv_at hl 0 rfl) ?_
        refine cS_i E (As := [.long ((mx (xb T b c) 15) - (mn (xb T b c) 15))]) (rest := [.int (nI 16), .int (nI (cb c + 7))]) (cR_width l ((mx (xb T b c) 15) - (mn (xb T b c) 15))) kR_59 rfl rfl ⟨Nat.le_of_ble_eq_true rfl, Nat.le_of_ble_eq_true rfl⟩ rfl hl.1 rfl (Nat.le_of_ble_eq_true rfl) dX1_need_53 ⟨Nat.zero_le _, Nat.zero_le _⟩ ?_
        refine n_imul E dX1_need_56 ?_
        refine n_iadd E dX1_need_57 ?_
        exact e_i E hr hlk (congrArg nI (by rw [ndz, if_neg h15, if_pos h26]; rfl)) dX1_need_58
    · skip
      refine lv_bipush (v := nI 16) E.1 E.2.1 dX1_need_18 rfl ?_
      refine lv_iload E.1 E.2.1 dX1_need_20 (lv_at hl 0 rfl) ?_
      refine n_imul E dX1_need_22 ?_
      exact e_i E hr hlk (congrArg nI (by rw [ndz, if_pos h15])) dX1_need_23
set_option maxHeartbeats 4000000 in
set_option maxRecDepth 100000 in
theorem cR_best (l : Launch) (D : va_G) (ad : Nat → Nat) (ca : Nat → ClassId) (T : Nat → Nat → Int64) (n : Nat) (kc ko : Nat → Nat) (kv : Nat → Int64) (k cd : Nat) (b c : Nat) (hb0 : b < 8) (hc0 : c < 4) : Met l yX1_best (wA yX1_best cX1_best 6 (some .int)) (rN 2) (va_Pc [.ref (ad 0), .int (nI b), .int (nI c)] (pW D c2 (tR ca) (wR ad ca T n kc ko kv k cd))) (vp_Si (fun z => z = nI (bW (xb T b c) (cb c) 3))) 0 0 (fun _ => False) := by
  refine met_of RX1 rfl (by decide) (Nat.le_of_ble_eq_true rfl) (fun p e s m below meth cd0 ls E hr hlk _ hB hl => ?_)
  obtain ⟨hP, hK⟩ := hB
  have hl : lv_has ls 6 [(0, .ref (ad 0)), (1, .int (nI b)), (2, .int (nI c))] := hl
  refine lv_iconst (v := nI 0) E.1 E.2.1 dX1_best_0 rfl ?_
  refine lv_istore_n (lv' := [(3, .int (nI 0)), (0, .ref (ad 0)), (1, .int (nI b)), (2, .int (nI c))]) E.1 E.2.1 dX1_best_1 rfl hl (by decide) rfl (fun ls hl => ?_)
  refine lv_iconst (v := nI 1) E.1 E.2.1 dX1_best_2 rfl ?_
  refine lv_istore (lv' := [(4, .int (nI 1)), (3, .int (nI 0)), (0, .ref (ad 0)), (1, .int (nI b)), (2, .int (nI c))]) E.1 E.2.1 dX1_best_3 hl (by decide) rfl (fun ls hl => ?_)
  refine w_lp1 (fun (j : Nat) => j ≤ 3) (fun (j : Nat) => 3 - j) (fun (j : Nat) => [(4, .int (nI (j + 1))), (3, .int (nI (bW (xb T b c) (cb c) j))), (0, .ref (ad 0)), (1, .int (nI b)), (2, .int (nI c))]) 0 (Nat.zero_le _) (lv_sub hl [0, 1, 2, 3, 4] rfl) (fun j ls hI hl ih5 => ?_)
  have hl : lv_has ls 6 [(4, .int (nI (j + 1))), (3, .int (nI (bW (xb T b c) (cb c) j))), (0, .ref (ad 0)), (1, .int (nI b)), (2, .int (nI c))] := hl
  refine lv_iload E.1 E.2.1 dX1_best_5 (lv_at hl 0 rfl) ?_
  refine lv_iconst (v := nI 4) E.1 E.2.1 dX1_best_7 rfl ?_
  refine n_icmp_ge (tgt := 46) E dX1_best_8 rfl (by omega) (by omega) (fun h8 => ?_) (fun h8 => ?_)
  · skip
    refine lv_iload_n E.1 E.2.1 dX1_best_46 rfl (lv_at hl 1 rfl) ?_
    exact e_i E hr hlk (by rw [show 3 = j by omega]) dX1_best_47
  · skip
    refine lv_aload_n E.1 E.2.1 dX1_best_11 rfl (lv_at hl 2 rfl) ?_
    refine lv_iload_n E.1 E.2.1 dX1_best_12 rfl (lv_at hl 3 rfl) ?_
    refine lv_iload_n E.1 E.2.1 dX1_best_13 rfl (lv_at hl 4 rfl) ?_
    refine lv_iload E.1 E.2.1 dX1_best_14 (lv_at hl 0 rfl) ?_
    have hbw := bW_le (xb T b c) (cb c) j
    have hnz1 := ndz_le (xb T b c) c (j + 1)
    have hnz2 := ndz_le (xb T b c) c (bW (xb T b c) (cb c) j)
    refine cV_i E (As := [.int (nI b), .int (nI c), .int (nI (j + 1))]) (rest := []) (cR_need l D ad ca T n kc ko kv k cd b c (j + 1) (by omega) (by omega) (by omega)) kR_63 hK hP 0 rfl rfl rfl rfl ⟨Nat.le_of_ble_eq_true rfl, Nat.le_of_ble_eq_true rfl⟩ rfl hl.1 rfl (Nat.le_of_ble_eq_true rfl) dX1_best_16 ⟨Nat.zero_le _, Nat.zero_le _⟩ ?_
    refine lv_istore (lv' := [(5, .int (nI (ndz (xb T b c) (cb c) (j + 1)))), (4, .int (nI (j + 1))), (3, .int (nI (bW (xb T b c) (cb c) j))), (0, .ref (ad 0)), (1, .int (nI b)), (2, .int (nI c))]) E.1 E.2.1 dX1_best_19 hl (by decide) rfl (fun ls hl => ?_)
    refine lv_iload E.1 E.2.1 dX1_best_21 (lv_at hl 0 rfl) ?_
    refine lv_aload_n E.1 E.2.1 dX1_best_23 rfl (lv_at hl 3 rfl) ?_
    refine lv_iload_n E.1 E.2.1 dX1_best_24 rfl (lv_at hl 4 rfl) ?_
    refine lv_iload_n E.1 E.2.1 dX1_best_25 rfl (lv_at hl 5 rfl) ?_
    refine lv_iload_n E.1 E.2.1 dX1_best_26 rfl (lv_at hl 2 rfl) ?_
    refine cV_i E (As := [.int (nI b), .int (nI c), .int (nI (bW (xb T b c) (cb c) j))]) (rest := [.int (nI (ndz (xb T b c) (cb c) (j + 1)))]) (cR_need l D ad ca T n kc ko kv k cd b c (bW (xb T b c) (cb c) j) (by omega) (by omega) (by omega)) kR_63 hK hP 0 rfl rfl rfl rfl ⟨Nat.le_of_ble_eq_true rfl, Nat.le_of_ble_eq_true rfl⟩ rfl hl.1 rfl (Nat.le_of_ble_eq_true rfl) dX1_best_27 ⟨Nat.zero_le _, Nat.zero_le _⟩ ?_
    refine n_icmp_ge (tgt := 38) E dX1_best_30 rfl (by omega) (by omega) (fun h30 => ?_) (fun h30 => ?_)
    · skip
      refine lv_iload_n E.1 E.2.1 dX1_best_38 rfl (lv_at hl 2 rfl) ?_
      refine tpi (y := nI (bW (xb T b c) (cb c) (j + 1))) (congrArg nI (by rw [bW, if_neg (by omega)])) ?_
      refine lv_istore_n (lv' := [(3, .int (nI (bW (xb T b c) (cb c) (j + 1)))), (5, .int (nI (ndz (xb T b c) (cb c) (j + 1)))), (4, .int (nI (j + 1))), (0, .ref (ad 0)), (1, .int (nI b)), (2, .int (nI c))]) E.1 E.2.1 dX1_best_39 rfl hl (by decide) rfl (fun ls hl => ?_)
      refine lv_iinc (k := 2) (v := nI (j + 1 + 1)) (lv' := [(4, .int (nI (j + 1 + 1))), (3, .int (nI (bW (xb T b c) (cb c) (j + 1)))), (5, .int (nI (ndz (xb T b c) (cb c) (j + 1)))), (0, .ref (ad 0)), (1, .int (nI b)), (2, .int (nI c))]) E.1 E.2.1 dX1_best_40 hl rfl (inc1 _) (by decide) rfl (fun ls hl => ?_)
      refine lv_goto (tgt := 5) E.1 E.2.1 dX1_best_43 rfl ?_
      exact ih5 (j + 1) _ (by omega) (by omega) (lv_sub hl [0, 1, 3, 4, 5] rfl)
    · skip
      refine lv_iload E.1 E.2.1 dX1_best_33 (lv_at hl 1 rfl) ?_
      refine lv_goto (tgt := 39) E.1 E.2.1 dX1_best_35 rfl ?_
      refine tpi (y := nI (bW (xb T b c) (cb c) (j + 1))) (congrArg nI (by rw [bW, if_pos h30])) ?_
      refine lv_istore_n (lv' := [(3, .int (nI (bW (xb T b c) (cb c) (j + 1)))), (5, .int (nI (ndz (xb T b c) (cb c) (j + 1)))), (4, .int (nI (j + 1))), (0, .ref (ad 0)), (1, .int (nI b)), (2, .int (nI c))]) E.1 E.2.1 dX1_best_39 rfl hl (by decide) rfl (fun ls hl => ?_)
      refine lv_iinc (k := 2) (v := nI (j + 1 + 1)) (lv' := [(4, .int (nI (j + 1 + 1))), (3, .int (nI (bW (xb T b c) (cb c) (j + 1)))), (5, .int (nI (ndz (xb T b c) (cb c) (j + 1)))), (0, .ref (ad 0)), (1, .int (nI b)), (2, .int (nI c))]) E.1 E.2.1 dX1_best_40 hl rfl (inc1 _) (by decide) rfl (fun ls hl => ?_)
      refine lv_goto (tgt := 5) E.1 E.2.1 dX1_best_43 rfl ?_
      exact ih5 (j + 1) _ (by omega) (by omega) (lv_sub hl [0, 1, 3, 4, 5] rfl)
end
section
/-! Contracts of the model: laid by program (wip/whole/gen.py). -/
set_option maxHeartbeats 4000000 in
set_option maxRecDepth 100000 in
theorem cR_lacks (l : Launch) (D : va_G) (ad : Nat → Nat) (ca : Nat → ClassId) (T : Nat → Nat → Int64) (n : Nat) (kc ko : Nat → Nat) (kv : Nat → Int64) (k cd : Nat) (b c : Nat) (hN : inj ad 5) (hn128 : n ≤ 128) (hb0 : b < n / 16) (hc : c < 4) : Met l yX1_lacks (wA yX1_lacks cX1_lacks 3 (some .boolean)) (rN 1) (va_Pc [.ref (ad 0), .int (nI b), .int (nI c)] (pW D c2 (tR ca) (wR ad ca T n kc ko kv k cd))) (qI (fun z (_ : Unit) => z = bI false) D c2 (fun _ => wR ad ca T n kc ko kv k 0) (fA ad 5)) 0 0 (fA ad 5) := by
  refine met_of RX1 rfl (by decide) (Nat.le_of_ble_eq_true rfl) (fun p e s m below meth cd0 ls E hr hlk _ hB hl => ?_)
  obtain ⟨hP, hK⟩ := hB
  have hl : lv_has ls 3 [(0, .ref (ad 0)), (1, .int (nI b)), (2, .int (nI c))] := hl
  have hS : va_S (fA ad 5) s.heap s.heap [] := va_S.rf
  refine lv_aload_n E.1 E.2.1 dX1_lacks_0 rfl (lv_at hl 0 rfl) ?_
  refine lv_iload_n E.1 E.2.1 dX1_lacks_1 rfl (lv_at hl 2 rfl) ?_
  refine cS_i E (As := [.int (nI c)]) (rest := [.ref (ad 0)]) (cR_isColumn l (nI c)) kR_30 rfl rfl ⟨Nat.le_of_ble_eq_true rfl, Nat.le_of_ble_eq_true rfl⟩ rfl hl.1 rfl (Nat.le_of_ble_eq_true rfl) dX1_lacks_2 ⟨Nat.zero_le _, Nat.zero_le _⟩ ?_
  refine tpi (y := bI true) (congrArg bI (isC_n (by omega))) ?_
  refine b_if_ne (tgt := 12) E dX1_lacks_5 rfl (fun _ => ?_) (fun h => Bool.noConfusion h)
  refine lv_iload_n E.1 E.2.1 dX1_lacks_12 rfl (lv_at hl 1 rfl) ?_
  refine n_if_lt (tgt := 27) E dX1_lacks_13 rfl (by omega) ?_
  refine lv_iload_n E.1 E.2.1 dX1_lacks_16 rfl (lv_at hl 1 rfl) ?_
  refine lv_aload_n E.1 E.2.1 dX1_lacks_17 rfl (lv_at hl 0 rfl) ?_
  refine n_get E inR hK hP 0 rfl rfl 1 (by decide) flR_27 rfl rfl dX1_lacks_18 ?_
  refine lv_bipush (v := nI 16) E.1 E.2.1 dX1_lacks_21 rfl ?_
  refine n_idiv E (by omega) (by omega) (by omega) dX1_lacks_23 ?_
  refine n_icmp_lt (tgt := 31) E dX1_lacks_24 rfl (by omega) (by omega) (fun h24 => ?_) (fun h24 => ?_)
  · skip
    refine lv_iconst (v := nI 0) E.1 E.2.1 dX1_lacks_31 rfl ?_
    refine n_put E inR tyR1 tyR1_ok nmR1 hK hP (dW hN rfl) hS 0 rfl rfl 0 (by decide) flR_23 rfl rfl (tyR1_ok 0 (by decide)) (Nat.le_of_ble_eq_true rfl) dX1_lacks_32 (fun H locs hP hS => ?_)
    have hP : va_P D c2 (wR ad ca T n kc ko kv k 0) H := hP
    refine lv_aload_n E.1 E.2.1 dX1_lacks_35 rfl (lv_at hl 0 rfl) ?_
    refine n_get E inR hK hP 0 rfl rfl 0 (by decide) flR_23 rfl rfl dX1_lacks_36 ?_
    refine n_if_le (tgt := 46) E dX1_lacks_39 rfl (by decide) (fun _ => ?_) (fun h => absurd h (by decide))
    refine lv_iconst (v := nI 0) E.1 E.2.1 dX1_lacks_46 rfl ?_
    exact e_wz (v := false) E hr hlk hS () rfl hP dX1_lacks_47
  · skip
    exfalso; omega
set_option maxHeartbeats 4000000 in
set_option maxRecDepth 100000 in
theorem cR_lacks1 (l : Launch) (D : va_G) (ad : Nat → Nat) (ca : Nat → ClassId) (T : Nat → Nat → Int64) (n : Nat) (kc ko : Nat → Nat) (kv : Nat → Int64) (k cd : Nat) (y x : Int32) (hN : inj ad 5) (hx : isC x = false) : Met l yX1_lacks (wA yX1_lacks cX1_lacks 3 (some .boolean)) (rN 1) (va_Pc [.ref (ad 0), .int y, .int x] (pW D c2 (tR ca) (wR ad ca T n kc ko kv k cd))) (qI (fun z (_ : Unit) => z = bI true) D c2 (fun _ => wR ad ca T n kc ko kv k 1) (fA ad 5)) 0 0 (fA ad 5) := by
  refine met_of RX1 rfl (by decide) (Nat.le_of_ble_eq_true rfl) (fun p e s m below meth cd0 ls E hr hlk _ hB hl => ?_)
  obtain ⟨hP, hK⟩ := hB
  have hl : lv_has ls 3 [(0, .ref (ad 0)), (1, .int y), (2, .int x)] := hl
  have hS : va_S (fA ad 5) s.heap s.heap [] := va_S.rf
  refine lv_aload_n E.1 E.2.1 dX1_lacks_0 rfl (lv_at hl 0 rfl) ?_
  refine lv_iload_n E.1 E.2.1 dX1_lacks_1 rfl (lv_at hl 2 rfl) ?_
  refine cS_i E (As := [.int x]) (rest := [.ref (ad 0)]) (cR_isColumn l x) kR_30 rfl rfl ⟨Nat.le_of_ble_eq_true rfl, Nat.le_of_ble_eq_true rfl⟩ rfl hl.1 rfl (Nat.le_of_ble_eq_true rfl) dX1_lacks_2 ⟨Nat.zero_le _, Nat.zero_le _⟩ ?_
  refine tpi (y := bI false) (congrArg bI hx) ?_
  refine b_if_ne (tgt := 12) E dX1_lacks_5 rfl (fun h => Bool.noConfusion h) (fun _ => ?_)
  refine lv_iconst (v := nI 1) E.1 E.2.1 dX1_lacks_8 rfl ?_
  refine lv_goto (tgt := 32) E.1 E.2.1 dX1_lacks_9 rfl ?_
  refine n_put E inR tyR1 tyR1_ok nmR1 hK hP (dW hN rfl) hS 0 rfl rfl 0 (by decide) flR_23 rfl rfl (tyR1_ok 0 (by decide)) (Nat.le_of_ble_eq_true rfl) dX1_lacks_32 (fun H locs hP hS => ?_)
  have hP : va_P D c2 (wR ad ca T n kc ko kv k 1) H := hP
  refine lv_aload_n E.1 E.2.1 dX1_lacks_35 rfl (lv_at hl 0 rfl) ?_
  refine n_get E inR hK hP 0 rfl rfl 0 (by decide) flR_23 rfl rfl dX1_lacks_36 ?_
  refine n_if_le (tgt := 46) E dX1_lacks_39 rfl (by decide) (fun h => absurd h (by decide)) (fun _ => ?_)
  refine lv_iconst (v := nI 1) E.1 E.2.1 dX1_lacks_42 rfl ?_
  refine lv_goto (tgt := 47) E.1 E.2.1 dX1_lacks_43 rfl ?_
  exact e_wz (v := true) E hr hlk hS () rfl hP dX1_lacks_47
set_option maxHeartbeats 4000000 in
set_option maxRecDepth 100000 in
theorem cR_lacks2 (l : Launch) (D : va_G) (ad : Nat → Nat) (ca : Nat → ClassId) (T : Nat → Nat → Int64) (n : Nat) (kc ko : Nat → Nat) (kv : Nat → Int64) (k cd : Nat) (y : Int32) (c : Nat) (hN : inj ad 5) (hn128 : n ≤ 128) (hc : c < 4) (hy : y < 0 ∨ nI (n / 16) ≤ y) : Met l yX1_lacks (wA yX1_lacks cX1_lacks 3 (some .boolean)) (rN 1) (va_Pc [.ref (ad 0), .int y, .int (nI c)] (pW D c2 (tR ca) (wR ad ca T n kc ko kv k cd))) (qI (fun z (_ : Unit) => z = bI true) D c2 (fun _ => wR ad ca T n kc ko kv k 2) (fA ad 5)) 0 0 (fA ad 5) := by
  refine met_of RX1 rfl (by decide) (Nat.le_of_ble_eq_true rfl) (fun p e s m below meth cd0 ls E hr hlk _ hB hl => ?_)
  obtain ⟨hP, hK⟩ := hB
  have hl : lv_has ls 3 [(0, .ref (ad 0)), (1, .int y), (2, .int (nI c))] := hl
  have hS : va_S (fA ad 5) s.heap s.heap [] := va_S.rf
  refine lv_aload_n E.1 E.2.1 dX1_lacks_0 rfl (lv_at hl 0 rfl) ?_
  refine lv_iload_n E.1 E.2.1 dX1_lacks_1 rfl (lv_at hl 2 rfl) ?_
  refine cS_i E (As := [.int (nI c)]) (rest := [.ref (ad 0)]) (cR_isColumn l (nI c)) kR_30 rfl rfl ⟨Nat.le_of_ble_eq_true rfl, Nat.le_of_ble_eq_true rfl⟩ rfl hl.1 rfl (Nat.le_of_ble_eq_true rfl) dX1_lacks_2 ⟨Nat.zero_le _, Nat.zero_le _⟩ ?_
  refine tpi (y := bI true) (congrArg bI (isC_n (by omega))) ?_
  refine b_if_ne (tgt := 12) E dX1_lacks_5 rfl (fun _ => ?_) (fun h => Bool.noConfusion h)
  refine lv_iload_n E.1 E.2.1 dX1_lacks_12 rfl (lv_at hl 1 rfl) ?_
  refine lv_if_lt (tgt := 27) E.1 E.2.1 dX1_lacks_13 rfl (fun h13 => ?_) (fun h13 => ?_)
  · skip
    refine lv_iconst (v := nI 2) E.1 E.2.1 dX1_lacks_27 rfl ?_
    refine lv_goto (tgt := 32) E.1 E.2.1 dX1_lacks_28 rfl ?_
    refine n_put E inR tyR1 tyR1_ok nmR1 hK hP (dW hN rfl) hS 0 rfl rfl 0 (by decide) flR_23 rfl rfl (tyR1_ok 0 (by decide)) (Nat.le_of_ble_eq_true rfl) dX1_lacks_32 (fun H locs hP hS => ?_)
    have hP : va_P D c2 (wR ad ca T n kc ko kv k 2) H := hP
    refine lv_aload_n E.1 E.2.1 dX1_lacks_35 rfl (lv_at hl 0 rfl) ?_
    refine n_get E inR hK hP 0 rfl rfl 0 (by decide) flR_23 rfl rfl dX1_lacks_36 ?_
    refine n_if_le (tgt := 46) E dX1_lacks_39 rfl (by decide) (fun h => absurd h (by decide)) (fun _ => ?_)
    refine lv_iconst (v := nI 1) E.1 E.2.1 dX1_lacks_42 rfl ?_
    refine lv_goto (tgt := 47) E.1 E.2.1 dX1_lacks_43 rfl ?_
    exact e_wz (v := true) E hr hlk hS () rfl hP dX1_lacks_47
  · skip
    refine lv_iload_n E.1 E.2.1 dX1_lacks_16 rfl (lv_at hl 1 rfl) ?_
    refine lv_aload_n E.1 E.2.1 dX1_lacks_17 rfl (lv_at hl 0 rfl) ?_
    refine n_get E inR hK hP 0 rfl rfl 1 (by decide) flR_27 rfl rfl dX1_lacks_18 ?_
    refine lv_bipush (v := nI 16) E.1 E.2.1 dX1_lacks_21 rfl ?_
    refine n_idiv E (by omega) (by omega) (by omega) dX1_lacks_23 ?_
    refine lv_icmp_lt (tgt := 31) E.1 E.2.1 dX1_lacks_24 rfl (fun h24 => ?_) (fun h24 => ?_)
    · skip
      exact (bad_no hy h13 h24).elim
    · skip
      refine lv_iconst (v := nI 2) E.1 E.2.1 dX1_lacks_27 rfl ?_
      refine lv_goto (tgt := 32) E.1 E.2.1 dX1_lacks_28 rfl ?_
      refine n_put E inR tyR1 tyR1_ok nmR1 hK hP (dW hN rfl) hS 0 rfl rfl 0 (by decide) flR_23 rfl rfl (tyR1_ok 0 (by decide)) (Nat.le_of_ble_eq_true rfl) dX1_lacks_32 (fun H locs hP hS => ?_)
      have hP : va_P D c2 (wR ad ca T n kc ko kv k 2) H := hP
      refine lv_aload_n E.1 E.2.1 dX1_lacks_35 rfl (lv_at hl 0 rfl) ?_
      refine n_get E inR hK hP 0 rfl rfl 0 (by decide) flR_23 rfl rfl dX1_lacks_36 ?_
      refine n_if_le (tgt := 46) E dX1_lacks_39 rfl (by decide) (fun h => absurd h (by decide)) (fun _ => ?_)
      refine lv_iconst (v := nI 1) E.1 E.2.1 dX1_lacks_42 rfl ?_
      refine lv_goto (tgt := 47) E.1 E.2.1 dX1_lacks_43 rfl ?_
      exact e_wz (v := true) E hr hlk hS () rfl hP dX1_lacks_47
set_option maxHeartbeats 4000000 in
set_option maxRecDepth 100000 in
theorem cR_way (l : Launch) (D : va_G) (ad : Nat → Nat) (ca : Nat → ClassId) (T : Nat → Nat → Int64) (n : Nat) (kc ko : Nat → Nat) (kv : Nat → Int64) (k cd : Nat) (b c : Nat) (hN : inj ad 5) (hn128 : n ≤ 128) (hb0 : b < n / 16) (hc : c < 4) : Met l yX1_way (wA yX1_way cX1_way 3 (some .int)) (rN 3) (va_Pc [.ref (ad 0), .int (nI b), .int (nI c)] (pW D c2 (tR ca) (wR ad ca T n kc ko kv k cd))) (qI (fun z (_ : Unit) => z = nI (bW (xb T b c) (cb c) 3)) D c2 (fun _ => wR ad ca T n kc ko kv k 0) (fA ad 5)) 0 0 (fA ad 5) := by
  refine met_of RX1 rfl (by decide) (Nat.le_of_ble_eq_true rfl) (fun p e s m below meth cd0 ls E hr hlk _ hB hl => ?_)
  obtain ⟨hP, hK⟩ := hB
  have hl : lv_has ls 3 [(0, .ref (ad 0)), (1, .int (nI b)), (2, .int (nI c))] := hl
  have hS : va_S (fA ad 5) s.heap s.heap [] := va_S.rf
  refine lv_aload_n E.1 E.2.1 dX1_way_0 rfl (lv_at hl 0 rfl) ?_
  refine lv_iload_n E.1 E.2.1 dX1_way_1 rfl (lv_at hl 1 rfl) ?_
  refine lv_iload_n E.1 E.2.1 dX1_way_2 rfl (lv_at hl 2 rfl) ?_
  refine cV_wi E (As := [.int (nI b), .int (nI c)]) (rest := []) (cR_lacks l D ad ca T n kc ko kv k cd b c hN hn128 (by omega) (by omega)) kR_67 hK hP hS (fun _ h => h) 0 rfl rfl rfl rfl ⟨Nat.le_of_ble_eq_true rfl, Nat.le_of_ble_eq_true rfl⟩ rfl hl.1 rfl (Nat.le_of_ble_eq_true rfl) dX1_way_3 ⟨Nat.zero_le _, Nat.zero_le _⟩ (fun z3 u3 H locs hp3 hP _ _ hS => ?_)
  subst hp3
  have hP : va_P D c2 (wR ad ca T n kc ko kv k 0) H := hP
  refine b_if_eq (tgt := 13) E dX1_way_6 rfl (fun _ => ?_) (fun h => Bool.noConfusion h)
  refine lv_aload_n E.1 E.2.1 dX1_way_13 rfl (lv_at hl 0 rfl) ?_
  refine lv_iload_n E.1 E.2.1 dX1_way_14 rfl (lv_at hl 1 rfl) ?_
  refine lv_iload_n E.1 E.2.1 dX1_way_15 rfl (lv_at hl 2 rfl) ?_
  refine cV_i E (As := [.int (nI b), .int (nI c)]) (rest := []) (cR_best l D ad ca T n kc ko kv k 0 b c (by omega) (by omega)) kR_71 hK hP 0 rfl rfl rfl rfl ⟨Nat.le_of_ble_eq_true rfl, Nat.le_of_ble_eq_true rfl⟩ rfl hl.1 rfl (Nat.le_of_ble_eq_true rfl) dX1_way_16 ⟨Nat.zero_le _, Nat.zero_le _⟩ ?_
  exact e_wi E hr hlk hS () rfl hP dX1_way_19
set_option maxHeartbeats 4000000 in
set_option maxRecDepth 100000 in
theorem cR_way1 (l : Launch) (D : va_G) (ad : Nat → Nat) (ca : Nat → ClassId) (T : Nat → Nat → Int64) (n : Nat) (kc ko : Nat → Nat) (kv : Nat → Int64) (k cd : Nat) (y x : Int32) (hN : inj ad 5) (hx : isC x = false) : Met l yX1_way (wA yX1_way cX1_way 3 (some .int)) (rN 3) (va_Pc [.ref (ad 0), .int y, .int x] (pW D c2 (tR ca) (wR ad ca T n kc ko kv k cd))) (qI (fun z (_ : Unit) => True) D c2 (fun _ => wR ad ca T n kc ko kv k 1) (fA ad 5)) 0 0 (fA ad 5) := by
  refine met_of RX1 rfl (by decide) (Nat.le_of_ble_eq_true rfl) (fun p e s m below meth cd0 ls E hr hlk _ hB hl => ?_)
  obtain ⟨hP, hK⟩ := hB
  have hl : lv_has ls 3 [(0, .ref (ad 0)), (1, .int y), (2, .int x)] := hl
  have hS : va_S (fA ad 5) s.heap s.heap [] := va_S.rf
  refine lv_aload_n E.1 E.2.1 dX1_way_0 rfl (lv_at hl 0 rfl) ?_
  refine lv_iload_n E.1 E.2.1 dX1_way_1 rfl (lv_at hl 1 rfl) ?_
  refine lv_iload_n E.1 E.2.1 dX1_way_2 rfl (lv_at hl 2 rfl) ?_
  refine cV_wi E (As := [.int y, .int x]) (rest := []) (cR_lacks1 l D ad ca T n kc ko kv k cd y x hN hx) kR_67 hK hP hS (fun _ h => h) 0 rfl rfl rfl rfl ⟨Nat.le_of_ble_eq_true rfl, Nat.le_of_ble_eq_true rfl⟩ rfl hl.1 rfl (Nat.le_of_ble_eq_true rfl) dX1_way_3 ⟨Nat.zero_le _, Nat.zero_le _⟩ (fun z3 u3 H locs hp3 hP _ _ hS => ?_)
  subst hp3
  have hP : va_P D c2 (wR ad ca T n kc ko kv k 1) H := hP
  refine b_if_eq (tgt := 13) E dX1_way_6 rfl (fun h => Bool.noConfusion h) (fun _ => ?_)
  refine lv_iconst (v := nI 0) E.1 E.2.1 dX1_way_9 rfl ?_
  refine lv_goto (tgt := 19) E.1 E.2.1 dX1_way_10 rfl ?_
  exact e_wi E hr hlk hS () trivial hP dX1_way_19
set_option maxHeartbeats 4000000 in
set_option maxRecDepth 100000 in
theorem cR_way2 (l : Launch) (D : va_G) (ad : Nat → Nat) (ca : Nat → ClassId) (T : Nat → Nat → Int64) (n : Nat) (kc ko : Nat → Nat) (kv : Nat → Int64) (k cd : Nat) (y : Int32) (c : Nat) (hN : inj ad 5) (hn128 : n ≤ 128) (hc : c < 4) (hy : y < 0 ∨ nI (n / 16) ≤ y) : Met l yX1_way (wA yX1_way cX1_way 3 (some .int)) (rN 3) (va_Pc [.ref (ad 0), .int y, .int (nI c)] (pW D c2 (tR ca) (wR ad ca T n kc ko kv k cd))) (qI (fun z (_ : Unit) => True) D c2 (fun _ => wR ad ca T n kc ko kv k 2) (fA ad 5)) 0 0 (fA ad 5) := by
  refine met_of RX1 rfl (by decide) (Nat.le_of_ble_eq_true rfl) (fun p e s m below meth cd0 ls E hr hlk _ hB hl => ?_)
  obtain ⟨hP, hK⟩ := hB
  have hl : lv_has ls 3 [(0, .ref (ad 0)), (1, .int y), (2, .int (nI c))] := hl
  have hS : va_S (fA ad 5) s.heap s.heap [] := va_S.rf
  refine lv_aload_n E.1 E.2.1 dX1_way_0 rfl (lv_at hl 0 rfl) ?_
  refine lv_iload_n E.1 E.2.1 dX1_way_1 rfl (lv_at hl 1 rfl) ?_
  refine lv_iload_n E.1 E.2.1 dX1_way_2 rfl (lv_at hl 2 rfl) ?_
  refine cV_wi E (As := [.int y, .int (nI c)]) (rest := []) (cR_lacks2 l D ad ca T n kc ko kv k cd y c hN hn128 hc hy) kR_67 hK hP hS (fun _ h => h) 0 rfl rfl rfl rfl ⟨Nat.le_of_ble_eq_true rfl, Nat.le_of_ble_eq_true rfl⟩ rfl hl.1 rfl (Nat.le_of_ble_eq_true rfl) dX1_way_3 ⟨Nat.zero_le _, Nat.zero_le _⟩ (fun z3 u3 H locs hp3 hP _ _ hS => ?_)
  subst hp3
  have hP : va_P D c2 (wR ad ca T n kc ko kv k 2) H := hP
  refine b_if_eq (tgt := 13) E dX1_way_6 rfl (fun h => Bool.noConfusion h) (fun _ => ?_)
  refine lv_iconst (v := nI 0) E.1 E.2.1 dX1_way_9 rfl ?_
  refine lv_goto (tgt := 19) E.1 E.2.1 dX1_way_10 rfl ?_
  exact e_wi E hr hlk hS () trivial hP dX1_way_19
set_option maxHeartbeats 4000000 in
set_option maxRecDepth 100000 in
theorem cR_bits (l : Launch) (D : va_G) (ad : Nat → Nat) (ca : Nat → ClassId) (T : Nat → Nat → Int64) (n : Nat) (kc ko : Nat → Nat) (kv : Nat → Int64) (k cd : Nat) (b c : Nat) (hN : inj ad 5) (hn128 : n ≤ 128) (hb0 : b < n / 16) (hc : c < 4) : Met l yX1_bits (wA yX1_bits cX1_bits 4 (some .int)) (rN 3) (va_Pc [.ref (ad 0), .int (nI b), .int (nI c)] (pW D c2 (tR ca) (wR ad ca T n kc ko kv k cd))) (qI (fun z (_ : Unit) => z = nI (ndz (xb T b c) (cb c) (bW (xb T b c) (cb c) 3))) D c2 (fun _ => wR ad ca T n kc ko kv k 0) (fA ad 5)) 0 0 (fA ad 5) := by
  refine met_of RX1 rfl (by decide) (Nat.le_of_ble_eq_true rfl) (fun p e s m below meth cd0 ls E hr hlk _ hB hl => ?_)
  obtain ⟨hP, hK⟩ := hB
  have hl : lv_has ls 4 [(0, .ref (ad 0)), (1, .int (nI b)), (2, .int (nI c))] := hl
  have hS : va_S (fA ad 5) s.heap s.heap [] := va_S.rf
  refine lv_aload_n E.1 E.2.1 dX1_bits_0 rfl (lv_at hl 0 rfl) ?_
  refine lv_iload_n E.1 E.2.1 dX1_bits_1 rfl (lv_at hl 1 rfl) ?_
  refine lv_iload_n E.1 E.2.1 dX1_bits_2 rfl (lv_at hl 2 rfl) ?_
  refine cV_wi E (As := [.int (nI b), .int (nI c)]) (rest := []) (cR_lacks l D ad ca T n kc ko kv k cd b c hN hn128 (by omega) (by omega)) kR_67 hK hP hS (fun _ h => h) 0 rfl rfl rfl rfl ⟨Nat.le_of_ble_eq_true rfl, Nat.le_of_ble_eq_true rfl⟩ rfl hl.1 rfl (Nat.le_of_ble_eq_true rfl) dX1_bits_3 ⟨Nat.zero_le _, Nat.zero_le _⟩ (fun z3 u3 H locs hp3 hP _ _ hS => ?_)
  subst hp3
  have hP : va_P D c2 (wR ad ca T n kc ko kv k 0) H := hP
  refine b_if_eq (tgt := 11) E dX1_bits_6 rfl (fun _ => ?_) (fun h => Bool.noConfusion h)
  refine lv_aload_n E.1 E.2.1 dX1_bits_11 rfl (lv_at hl 0 rfl) ?_
  refine lv_iload_n E.1 E.2.1 dX1_bits_12 rfl (lv_at hl 1 rfl) ?_
  refine lv_iload_n E.1 E.2.1 dX1_bits_13 rfl (lv_at hl 2 rfl) ?_
  refine cV_i E (As := [.int (nI b), .int (nI c)]) (rest := []) (cR_best l D ad ca T n kc ko kv k 0 b c (by omega) (by omega)) kR_71 hK hP 0 rfl rfl rfl rfl ⟨Nat.le_of_ble_eq_true rfl, Nat.le_of_ble_eq_true rfl⟩ rfl hl.1 rfl (Nat.le_of_ble_eq_true rfl) dX1_bits_14 ⟨Nat.zero_le _, Nat.zero_le _⟩ ?_
  refine lv_istore_n (lv' := [(3, .int (nI (bW (xb T b c) (cb c) 3))), (0, .ref (ad 0)), (1, .int (nI b)), (2, .int (nI c))]) E.1 E.2.1 dX1_bits_17 rfl hl (by decide) rfl (fun ls hl => ?_)
  refine lv_aload_n E.1 E.2.1 dX1_bits_18 rfl (lv_at hl 1 rfl) ?_
  refine lv_iload_n E.1 E.2.1 dX1_bits_19 rfl (lv_at hl 2 rfl) ?_
  refine lv_iload_n E.1 E.2.1 dX1_bits_20 rfl (lv_at hl 3 rfl) ?_
  refine lv_iload_n E.1 E.2.1 dX1_bits_21 rfl (lv_at hl 0 rfl) ?_
  have hbw := bW_le (xb T b c) (cb c) 3
  refine cV_i E (As := [.int (nI b), .int (nI c), .int (nI (bW (xb T b c) (cb c) 3))]) (rest := []) (cR_need l D ad ca T n kc ko kv k 0 b c (bW (xb T b c) (cb c) 3) (by omega) (by omega) (by omega)) kR_63 hK hP 0 rfl rfl rfl rfl ⟨Nat.le_of_ble_eq_true rfl, Nat.le_of_ble_eq_true rfl⟩ rfl hl.1 rfl (Nat.le_of_ble_eq_true rfl) dX1_bits_22 ⟨Nat.zero_le _, Nat.zero_le _⟩ ?_
  exact e_wi E hr hlk hS () rfl hP dX1_bits_25
set_option maxHeartbeats 4000000 in
set_option maxRecDepth 100000 in
theorem cR_bits1 (l : Launch) (D : va_G) (ad : Nat → Nat) (ca : Nat → ClassId) (T : Nat → Nat → Int64) (n : Nat) (kc ko : Nat → Nat) (kv : Nat → Int64) (k cd : Nat) (y x : Int32) (hN : inj ad 5) (hx : isC x = false) : Met l yX1_bits (wA yX1_bits cX1_bits 4 (some .int)) (rN 3) (va_Pc [.ref (ad 0), .int y, .int x] (pW D c2 (tR ca) (wR ad ca T n kc ko kv k cd))) (qI (fun z (_ : Unit) => True) D c2 (fun _ => wR ad ca T n kc ko kv k 1) (fA ad 5)) 0 0 (fA ad 5) := by
  refine met_of RX1 rfl (by decide) (Nat.le_of_ble_eq_true rfl) (fun p e s m below meth cd0 ls E hr hlk _ hB hl => ?_)
  obtain ⟨hP, hK⟩ := hB
  have hl : lv_has ls 4 [(0, .ref (ad 0)), (1, .int y), (2, .int x)] := hl
  have hS : va_S (fA ad 5) s.heap s.heap [] := va_S.rf
  refine lv_aload_n E.1 E.2.1 dX1_bits_0 rfl (lv_at hl 0 rfl) ?_
  refine lv_iload_n E.1 E.2.1 dX1_bits_1 rfl (lv_at hl 1 rfl) ?_
  refine lv_iload_n E.1 E.2.1 dX1_bits_2 rfl (lv_at hl 2 rfl) ?_
  refine cV_wi E (As := [.int y, .int x]) (rest := []) (cR_lacks1 l D ad ca T n kc ko kv k cd y x hN hx) kR_67 hK hP hS (fun _ h => h) 0 rfl rfl rfl rfl ⟨Nat.le_of_ble_eq_true rfl, Nat.le_of_ble_eq_true rfl⟩ rfl hl.1 rfl (Nat.le_of_ble_eq_true rfl) dX1_bits_3 ⟨Nat.zero_le _, Nat.zero_le _⟩ (fun z3 u3 H locs hp3 hP _ _ hS => ?_)
  subst hp3
  have hP : va_P D c2 (wR ad ca T n kc ko kv k 1) H := hP
  refine b_if_eq (tgt := 11) E dX1_bits_6 rfl (fun h => Bool.noConfusion h) (fun _ => ?_)
  refine lv_iconst (v := nI 0) E.1 E.2.1 dX1_bits_9 rfl ?_
  exact e_wi E hr hlk hS () trivial hP dX1_bits_10
set_option maxHeartbeats 4000000 in
set_option maxRecDepth 100000 in
theorem cR_bits2 (l : Launch) (D : va_G) (ad : Nat → Nat) (ca : Nat → ClassId) (T : Nat → Nat → Int64) (n : Nat) (kc ko : Nat → Nat) (kv : Nat → Int64) (k cd : Nat) (y : Int32) (c : Nat) (hN : inj ad 5) (hn128 : n ≤ 128) (hc : c < 4) (hy : y < 0 ∨ nI (n / 16) ≤ y) : Met l yX1_bits (wA yX1_bits cX1_bits 4 (some .int)) (rN 3) (va_Pc [.ref (ad 0), .int y, .int (nI c)] (pW D c2 (tR ca) (wR ad ca T n kc ko kv k cd))) (qI (fun z (_ : Unit) => True) D c2 (fun _ => wR ad ca T n kc ko kv k 2) (fA ad 5)) 0 0 (fA ad 5) := by
  refine met_of RX1 rfl (by decide) (Nat.le_of_ble_eq_true rfl) (fun p e s m below meth cd0 ls E hr hlk _ hB hl => ?_)
  obtain ⟨hP, hK⟩ := hB
  have hl : lv_has ls 4 [(0, .ref (ad 0)), (1, .int y), (2, .int (nI c))] := hl
  have hS : va_S (fA ad 5) s.heap s.heap [] := va_S.rf
  refine lv_aload_n E.1 E.2.1 dX1_bits_0 rfl (lv_at hl 0 rfl) ?_
  refine lv_iload_n E.1 E.2.1 dX1_bits_1 rfl (lv_at hl 1 rfl) ?_
  refine lv_iload_n E.1 E.2.1 dX1_bits_2 rfl (lv_at hl 2 rfl) ?_
  refine cV_wi E (As := [.int y, .int (nI c)]) (rest := []) (cR_lacks2 l D ad ca T n kc ko kv k cd y c hN hn128 hc hy) kR_67 hK hP hS (fun _ h => h) 0 rfl rfl rfl rfl ⟨Nat.le_of_ble_eq_true rfl, Nat.le_of_ble_eq_true rfl⟩ rfl hl.1 rfl (Nat.le_of_ble_eq_true rfl) dX1_bits_3 ⟨Nat.zero_le _, Nat.zero_le _⟩ (fun z3 u3 H locs hp3 hP _ _ hS => ?_)
  subst hp3
  have hP : va_P D c2 (wR ad ca T n kc ko kv k 2) H := hP
  refine b_if_eq (tgt := 11) E dX1_bits_6 rfl (fun h => Bool.noConfusion h) (fun _ => ?_)
  refine lv_iconst (v := nI 0) E.1 E.2.1 dX1_bits_9 rfl ?_
  exact e_wi E hr hlk hS () trivial hP dX1_bits_10
set_option maxHeartbeats 4000000 in
set_option maxRecDepth 100000 in
theorem cR_sum (l : Launch) (D : va_G) (ad : Nat → Nat) (ca : Nat → ClassId) (T : Nat → Nat → Int64) (n : Nat) (kc ko : Nat → Nat) (kv : Nat → Int64) (k cd : Nat) (c : Nat) (hN : inj ad 5) (hIK : iK kc ko k) (hn128 : n ≤ 128) (hc : c < 4) : Met l yX1_sum (wA yX1_sum cX1_sum 5 (some .long)) (rN 2) (va_Pc [.ref (ad 0), .int (nI c)] (pW D c2 (tR ca) (wR ad ca T n kc ko kv k cd))) (qL (fun z (_ : Unit) => z = sm (fun t => if (ch T kc ko kv k) t then T t c else 0) n) D c2 (fun _ => wR ad ca T n kc ko kv k 0) (fA ad 5)) 0 0 (fA ad 5) := by
  refine met_of RX1 rfl (by decide) (Nat.le_of_ble_eq_true rfl) (fun p e s m below meth cd0 ls E hr hlk _ hB hl => ?_)
  obtain ⟨hP, hK⟩ := hB
  have hl : lv_has ls 5 [(0, .ref (ad 0)), (1, .int (nI c))] := hl
  have hS : va_S (fA ad 5) s.heap s.heap [] := va_S.rf
  refine lv_aload_n E.1 E.2.1 dX1_sum_0 rfl (lv_at hl 0 rfl) ?_
  refine lv_iload_n E.1 E.2.1 dX1_sum_1 rfl (lv_at hl 1 rfl) ?_
  refine cS_i E (As := [.int (nI c)]) (rest := [.ref (ad 0)]) (cR_isColumn l (nI c)) kR_30 rfl rfl ⟨Nat.le_of_ble_eq_true rfl, Nat.le_of_ble_eq_true rfl⟩ rfl hl.1 rfl (Nat.le_of_ble_eq_true rfl) dX1_sum_2 ⟨Nat.zero_le _, Nat.zero_le _⟩ ?_
  refine tpi (y := bI true) (congrArg bI (isC_n (by omega))) ?_
  refine b_if_eq (tgt := 12) E dX1_sum_5 rfl (fun h => Bool.noConfusion h) (fun _ => ?_)
  refine lv_iconst (v := nI 0) E.1 E.2.1 dX1_sum_8 rfl ?_
  refine lv_goto (tgt := 13) E.1 E.2.1 dX1_sum_9 rfl ?_
  refine n_put E inR tyR1 tyR1_ok nmR1 hK hP (dW hN rfl) hS 0 rfl rfl 0 (by decide) flR_23 rfl rfl (tyR1_ok 0 (by decide)) (Nat.le_of_ble_eq_true rfl) dX1_sum_13 (fun H locs hP hS => ?_)
  have hP : va_P D c2 (wR ad ca T n kc ko kv k 0) H := hP
  refine lv_lconst (v := 0) E.1 E.2.1 dX1_sum_16 rfl ?_
  refine lv_lstore_n (lv' := [(2, .long 0), (0, .ref (ad 0)), (1, .int (nI c))]) E.1 E.2.1 dX1_sum_17 rfl hl (by decide) rfl (fun ls hl => ?_)
  refine lv_iconst (v := nI 0) E.1 E.2.1 dX1_sum_18 rfl ?_
  refine lv_istore (lv' := [(4, .int (nI 0)), (2, .long 0), (0, .ref (ad 0)), (1, .int (nI c))]) E.1 E.2.1 dX1_sum_19 hl (by decide) rfl (fun ls hl => ?_)
  refine w_lp1 (fun (r : Nat) => r ≤ n) (fun (r : Nat) => n - r) (fun (r : Nat) => [(4, .int (nI r)), (2, .long (sm (fun t => if (ch T kc ko kv k) t then T t c else 0) r)), (0, .ref (ad 0)), (1, .int (nI c))]) 0 (Nat.zero_le _) (lv_sub hl [0, 1, 2, 3] rfl) (fun r ls hI hl ih21 => ?_)
  have hl : lv_has ls 5 [(4, .int (nI r)), (2, .long (sm (fun t => if (ch T kc ko kv k) t then T t c else 0) r)), (0, .ref (ad 0)), (1, .int (nI c))] := hl
  refine lv_iload E.1 E.2.1 dX1_sum_21 (lv_at hl 0 rfl) ?_
  refine lv_aload_n E.1 E.2.1 dX1_sum_23 rfl (lv_at hl 2 rfl) ?_
  refine n_get E inR hK hP 0 rfl rfl 1 (by decide) flR_27 rfl rfl dX1_sum_24 ?_
  refine n_icmp_ge (tgt := 70) E dX1_sum_27 rfl (by omega) (by omega) (fun h27 => ?_) (fun h27 => ?_)
  · skip
    refine lv_lload_n E.1 E.2.1 dX1_sum_70 rfl (lv_at hl 1 rfl) ?_
    exact e_wl E hr hlk hS () (by rw [show n = r by omega]) hP dX1_sum_71
  · skip
    refine lv_aload_n E.1 E.2.1 dX1_sum_30 rfl (lv_at hl 2 rfl) ?_
    refine n_get E inR hK hP 0 rfl rfl 0 (by decide) flR_23 rfl rfl dX1_sum_31 ?_
    refine n_if_ne (tgt := 70) E dX1_sum_34 rfl (by decide) (fun h => absurd h (by decide)) (fun _ => ?_)
    refine lv_lload_n E.1 E.2.1 dX1_sum_37 rfl (lv_at hl 1 rfl) ?_
    refine lv_aload_n E.1 E.2.1 dX1_sum_38 rfl (lv_at hl 2 rfl) ?_
    refine lv_iload E.1 E.2.1 dX1_sum_39 (lv_at hl 0 rfl) ?_
    refine cV_i E (As := [.int (nI r)]) (rest := [.long (sm (fun t => if (ch T kc ko kv k) t then T t c else 0) r)]) (cR_isChosen l D ad ca T n kc ko kv k 0 r hIK (by omega)) kR_41 hK hP 0 rfl rfl rfl rfl ⟨Nat.le_of_ble_eq_true rfl, Nat.le_of_ble_eq_true rfl⟩ rfl hl.1 rfl (Nat.le_of_ble_eq_true rfl) dX1_sum_41 ⟨Nat.zero_le _, Nat.zero_le _⟩ ?_
    refine b_if_eq (tgt := 61) E dX1_sum_44 rfl (fun h44 => ?_) (fun h44 => ?_)
    · skip
      refine lv_lconst (v := 0) E.1 E.2.1 dX1_sum_61 rfl ?_
      refine lv_ladd E.1 E.2.1 dX1_sum_62 ?_
      refine tpl (y := sm (fun t => if (ch T kc ko kv k) t then T t c else 0) (r + 1)) (by rw [sm, if_neg (by rw [h44]; decide)]) ?_
      refine lv_lstore_n (lv' := [(2, .long (sm (fun t => if (ch T kc ko kv k) t then T t c else 0) (r + 1))), (4, .int (nI r)), (0, .ref (ad 0)), (1, .int (nI c))]) E.1 E.2.1 dX1_sum_63 rfl hl (by decide) rfl (fun ls hl => ?_)
      refine lv_iinc (k := 1) (v := nI (r + 1)) (lv' := [(4, .int (nI (r + 1))), (2, .long (sm (fun t => if (ch T kc ko kv k) t then T t c else 0) (r + 1))), (0, .ref (ad 0)), (1, .int (nI c))]) E.1 E.2.1 dX1_sum_64 hl rfl (inc1 _) (by decide) rfl (fun ls hl => ?_)
      refine lv_goto (tgt := 21) E.1 E.2.1 dX1_sum_67 rfl ?_
      exact ih21 (r + 1) _ (by omega) (by omega) (lv_sub hl [0, 1, 2, 3] rfl)
    · skip
      refine lv_aload_n E.1 E.2.1 dX1_sum_47 rfl (lv_at hl 2 rfl) ?_
      refine n_get E inR hK hP 0 rfl rfl 2 (by decide) flR_7 rfl rfl dX1_sum_48 ?_
      refine lv_iconst (v := nI 4) E.1 E.2.1 dX1_sum_51 rfl ?_
      refine lv_iload E.1 E.2.1 dX1_sum_52 (lv_at hl 0 rfl) ?_
      refine n_imul E dX1_sum_54 ?_
      refine lv_iload_n E.1 E.2.1 dX1_sum_55 rfl (lv_at hl 3 rfl) ?_
      refine n_iadd E dX1_sum_56 ?_
      refine n_rald E hK hP 1 0 rfl rfl r c (by omega) (by omega) (by omega) dX1_sum_57 ?_
      refine lv_goto (tgt := 62) E.1 E.2.1 dX1_sum_58 rfl ?_
      refine lv_ladd E.1 E.2.1 dX1_sum_62 ?_
      refine tpl (y := sm (fun t => if (ch T kc ko kv k) t then T t c else 0) (r + 1)) (by rw [sm, if_pos h44]) ?_
      refine lv_lstore_n (lv' := [(2, .long (sm (fun t => if (ch T kc ko kv k) t then T t c else 0) (r + 1))), (4, .int (nI r)), (0, .ref (ad 0)), (1, .int (nI c))]) E.1 E.2.1 dX1_sum_63 rfl hl (by decide) rfl (fun ls hl => ?_)
      refine lv_iinc (k := 1) (v := nI (r + 1)) (lv' := [(4, .int (nI (r + 1))), (2, .long (sm (fun t => if (ch T kc ko kv k) t then T t c else 0) (r + 1))), (0, .ref (ad 0)), (1, .int (nI c))]) E.1 E.2.1 dX1_sum_64 hl rfl (inc1 _) (by decide) rfl (fun ls hl => ?_)
      refine lv_goto (tgt := 21) E.1 E.2.1 dX1_sum_67 rfl ?_
      exact ih21 (r + 1) _ (by omega) (by omega) (lv_sub hl [0, 1, 2, 3] rfl)
set_option maxHeartbeats 4000000 in
set_option maxRecDepth 100000 in
theorem cR_sum1 (l : Launch) (D : va_G) (ad : Nat → Nat) (ca : Nat → ClassId) (T : Nat → Nat → Int64) (n : Nat) (kc ko : Nat → Nat) (kv : Nat → Int64) (k cd : Nat) (x : Int32) (hN : inj ad 5) (hn128 : n ≤ 128) (hx : isC x = false) : Met l yX1_sum (wA yX1_sum cX1_sum 5 (some .long)) (rN 2) (va_Pc [.ref (ad 0), .int x] (pW D c2 (tR ca) (wR ad ca T n kc ko kv k cd))) (qL (fun z (_ : Unit) => True) D c2 (fun _ => wR ad ca T n kc ko kv k 1) (fA ad 5)) 0 0 (fA ad 5) := by
  refine met_of RX1 rfl (by decide) (Nat.le_of_ble_eq_true rfl) (fun p e s m below meth cd0 ls E hr hlk _ hB hl => ?_)
  obtain ⟨hP, hK⟩ := hB
  have hl : lv_has ls 5 [(0, .ref (ad 0)), (1, .int x)] := hl
  have hS : va_S (fA ad 5) s.heap s.heap [] := va_S.rf
  refine lv_aload_n E.1 E.2.1 dX1_sum_0 rfl (lv_at hl 0 rfl) ?_
  refine lv_iload_n E.1 E.2.1 dX1_sum_1 rfl (lv_at hl 1 rfl) ?_
  refine cS_i E (As := [.int x]) (rest := [.ref (ad 0)]) (cR_isColumn l x) kR_30 rfl rfl ⟨Nat.le_of_ble_eq_true rfl, Nat.le_of_ble_eq_true rfl⟩ rfl hl.1 rfl (Nat.le_of_ble_eq_true rfl) dX1_sum_2 ⟨Nat.zero_le _, Nat.zero_le _⟩ ?_
  refine tpi (y := bI false) (congrArg bI hx) ?_
  refine b_if_eq (tgt := 12) E dX1_sum_5 rfl (fun _ => ?_) (fun h => Bool.noConfusion h)
  refine lv_iconst (v := nI 1) E.1 E.2.1 dX1_sum_12 rfl ?_
  refine n_put E inR tyR1 tyR1_ok nmR1 hK hP (dW hN rfl) hS 0 rfl rfl 0 (by decide) flR_23 rfl rfl (tyR1_ok 0 (by decide)) (Nat.le_of_ble_eq_true rfl) dX1_sum_13 (fun H locs hP hS => ?_)
  have hP : va_P D c2 (wR ad ca T n kc ko kv k 1) H := hP
  refine lv_lconst (v := 0) E.1 E.2.1 dX1_sum_16 rfl ?_
  refine lv_lstore_n (lv' := [(2, .long 0), (0, .ref (ad 0)), (1, .int x)]) E.1 E.2.1 dX1_sum_17 rfl hl (by decide) rfl (fun ls hl => ?_)
  refine lv_iconst (v := nI 0) E.1 E.2.1 dX1_sum_18 rfl ?_
  refine lv_istore (lv' := [(4, .int (nI 0)), (2, .long 0), (0, .ref (ad 0)), (1, .int x)]) E.1 E.2.1 dX1_sum_19 hl (by decide) rfl (fun ls hl => ?_)
  refine lv_iload E.1 E.2.1 dX1_sum_21 (lv_at hl 0 rfl) ?_
  refine lv_aload_n E.1 E.2.1 dX1_sum_23 rfl (lv_at hl 2 rfl) ?_
  refine n_get E inR hK hP 0 rfl rfl 1 (by decide) flR_27 rfl rfl dX1_sum_24 ?_
  refine n_icmp_ge (tgt := 70) E dX1_sum_27 rfl (by omega) (by omega) (fun h27 => ?_) (fun h27 => ?_)
  · skip
    refine lv_lload_n E.1 E.2.1 dX1_sum_70 rfl (lv_at hl 1 rfl) ?_
    exact e_wl E hr hlk hS () trivial hP dX1_sum_71
  · skip
    refine lv_aload_n E.1 E.2.1 dX1_sum_30 rfl (lv_at hl 2 rfl) ?_
    refine n_get E inR hK hP 0 rfl rfl 0 (by decide) flR_23 rfl rfl dX1_sum_31 ?_
    refine n_if_ne (tgt := 70) E dX1_sum_34 rfl (by decide) (fun _ => ?_) (fun h => absurd h (by decide))
    refine lv_lload_n E.1 E.2.1 dX1_sum_70 rfl (lv_at hl 1 rfl) ?_
    exact e_wl E hr hlk hS () trivial hP dX1_sum_71
set_option maxHeartbeats 4000000 in
set_option maxRecDepth 100000 in
theorem cR_bound (l : Launch) (D : va_G) (ad : Nat → Nat) (ca : Nat → ClassId) (T : Nat → Nat → Int64) (n : Nat) (kc ko : Nat → Nat) (kv : Nat → Int64) (k cd : Nat) (c : Nat) (d : Bool) (hN : inj ad 5) (hIK : iK kc ko k) (hn128 : n ≤ 128) (hc : c < 4) (hpos : 0 < ct (ch T kc ko kv k) n) : Met l yX1_bound (wA yX1_bound cX1_bound 8 (some .long)) (rN 3) (va_Pc [.ref (ad 0), .int (nI c), .int (bI d)] (pW D c2 (tR ca) (wR ad ca T n kc ko kv k cd))) (qL (fun z (_ : Unit) => z = bR (ch T kc ko kv k) (fun t => T t c) d n) D c2 (fun _ => wR ad ca T n kc ko kv k 0) (fA ad 5)) 0 0 (fA ad 5) := by
  refine met_of RX1 rfl (by decide) (Nat.le_of_ble_eq_true rfl) (fun p e s m below meth cd0 ls E hr hlk _ hB hl => ?_)
  obtain ⟨hP, hK⟩ := hB
  have hl : lv_has ls 8 [(0, .ref (ad 0)), (1, .int (nI c)), (2, .int (bI d))] := hl
  have hS : va_S (fA ad 5) s.heap s.heap [] := va_S.rf
  have hctn := ct_le (ch T kc ko kv k) n
  refine lv_aload_n E.1 E.2.1 dX1_bound_0 rfl (lv_at hl 0 rfl) ?_
  refine lv_iload_n E.1 E.2.1 dX1_bound_1 rfl (lv_at hl 1 rfl) ?_
  refine cS_i E (As := [.int (nI c)]) (rest := [.ref (ad 0)]) (cR_isColumn l (nI c)) kR_30 rfl rfl ⟨Nat.le_of_ble_eq_true rfl, Nat.le_of_ble_eq_true rfl⟩ rfl hl.1 rfl (Nat.le_of_ble_eq_true rfl) dX1_bound_2 ⟨Nat.zero_le _, Nat.zero_le _⟩ ?_
  refine tpi (y := bI true) (congrArg bI (isC_n (by omega))) ?_
  refine b_if_ne (tgt := 12) E dX1_bound_5 rfl (fun _ => ?_) (fun h => Bool.noConfusion h)
  refine lv_aload_n E.1 E.2.1 dX1_bound_12 rfl (lv_at hl 0 rfl) ?_
  refine cV_i E (As := []) (rest := [.ref (ad 0)]) (cR_countChosen l D ad ca T n kc ko kv k cd hIK hn128) kR_44 hK hP 0 rfl rfl rfl rfl ⟨Nat.le_of_ble_eq_true rfl, Nat.le_of_ble_eq_true rfl⟩ rfl hl.1 rfl (Nat.le_of_ble_eq_true rfl) dX1_bound_13 ⟨Nat.zero_le _, Nat.zero_le _⟩ ?_
  refine n_if_ne (tgt := 23) E dX1_bound_16 rfl (by omega) (fun h16 => ?_) (fun h16 => ?_)
  · skip
    refine lv_iconst (v := nI 0) E.1 E.2.1 dX1_bound_23 rfl ?_
    refine n_put E inR tyR1 tyR1_ok nmR1 hK hP (dW hN rfl) hS 0 rfl rfl 0 (by decide) flR_23 rfl rfl (tyR1_ok 0 (by decide)) (Nat.le_of_ble_eq_true rfl) dX1_bound_24 (fun H locs hP hS => ?_)
    have hP : va_P D c2 (wR ad ca T n kc ko kv k 0) H := hP
    refine lv_iload_n E.1 E.2.1 dX1_bound_27 rfl (lv_at hl 2 rfl) ?_
    refine b_if_eq (tgt := 37) E dX1_bound_28 rfl (fun h28 => ?_) (fun h28 => ?_)
    · skip
      refine lv_ldc2 E.1 E.2.1 E.2.2.2.1 (E.2.2.2.2 _ ldR_77) dX1_bound_37 ?_
      refine tpl (y := bR (ch T kc ko kv k) (fun t => T t c) d 0) (by simp [bR, h28]) ?_
      refine lv_lstore_n (lv' := [(3, .long (bR (ch T kc ko kv k) (fun t => T t c) d 0)), (0, .ref (ad 0)), (1, .int (nI c)), (2, .int (bI d))]) E.1 E.2.1 dX1_bound_40 rfl hl (by decide) rfl (fun ls hl => ?_)
      refine lv_iconst (v := nI 0) E.1 E.2.1 dX1_bound_41 rfl ?_
      refine lv_istore (lv' := [(5, .int (nI 0)), (3, .long (bR (ch T kc ko kv k) (fun t => T t c) d 0)), (0, .ref (ad 0)), (1, .int (nI c)), (2, .int (bI d))]) E.1 E.2.1 dX1_bound_42 hl (by decide) rfl (fun ls hl => ?_)
      refine w_lp1 (fun (r : Nat) => r ≤ n) (fun (r : Nat) => n - r) (fun (r : Nat) => [(5, .int (nI r)), (3, .long (bR (ch T kc ko kv k) (fun t => T t c) d r)), (0, .ref (ad 0)), (1, .int (nI c)), (2, .int (bI d))]) 0 (Nat.zero_le _) (lv_sub hl [0, 1, 2, 3, 4] rfl) (fun r ls hI hl ih44 => ?_)
      have hl : lv_has ls 8 [(5, .int (nI r)), (3, .long (bR (ch T kc ko kv k) (fun t => T t c) d r)), (0, .ref (ad 0)), (1, .int (nI c)), (2, .int (bI d))] := hl
      refine lv_iload E.1 E.2.1 dX1_bound_44 (lv_at hl 0 rfl) ?_
      refine lv_aload_n E.1 E.2.1 dX1_bound_46 rfl (lv_at hl 2 rfl) ?_
      refine n_get E inR hK hP 0 rfl rfl 1 (by decide) flR_27 rfl rfl dX1_bound_47 ?_
      refine n_icmp_ge (tgt := 116) E dX1_bound_50 rfl (by omega) (by omega) (fun h50 => ?_) (fun h50 => ?_)
      · skip
        refine lv_aload_n E.1 E.2.1 dX1_bound_116 rfl (lv_at hl 2 rfl) ?_
        refine n_get E inR hK hP 0 rfl rfl 0 (by decide) flR_23 rfl rfl dX1_bound_117 ?_
        refine n_if_ne (tgt := 127) E dX1_bound_120 rfl (by decide) (fun h => absurd h (by decide)) (fun _ => ?_)
        refine lv_lload_n E.1 E.2.1 dX1_bound_123 rfl (lv_at hl 1 rfl) ?_
        refine lv_goto (tgt := 128) E.1 E.2.1 dX1_bound_124 rfl ?_
        exact e_wl E hr hlk hS () (by rw [show n = r by omega]) hP dX1_bound_128
      · skip
        refine lv_aload_n E.1 E.2.1 dX1_bound_53 rfl (lv_at hl 2 rfl) ?_
        refine n_get E inR hK hP 0 rfl rfl 0 (by decide) flR_23 rfl rfl dX1_bound_54 ?_
        refine n_if_ne (tgt := 116) E dX1_bound_57 rfl (by decide) (fun h => absurd h (by decide)) (fun _ => ?_)
        refine lv_aload_n E.1 E.2.1 dX1_bound_60 rfl (lv_at hl 2 rfl) ?_
        refine n_get E inR hK hP 0 rfl rfl 2 (by decide) flR_7 rfl rfl dX1_bound_61 ?_
        refine lv_iconst (v := nI 4) E.1 E.2.1 dX1_bound_64 rfl ?_
        refine lv_iload E.1 E.2.1 dX1_bound_65 (lv_at hl 0 rfl) ?_
        refine n_imul E dX1_bound_67 ?_
        refine lv_iload_n E.1 E.2.1 dX1_bound_68 rfl (lv_at hl 3 rfl) ?_
        refine n_iadd E dX1_bound_69 ?_
        refine n_rald E hK hP 1 0 rfl rfl r c (by omega) (by omega) (by omega) dX1_bound_70 ?_
        refine lv_lstore (lv' := [(6, .long (T r c)), (5, .int (nI r)), (3, .long (bR (ch T kc ko kv k) (fun t => T t c) d r)), (0, .ref (ad 0)), (1, .int (nI c)), (2, .int (bI d))]) E.1 E.2.1 dX1_bound_71 hl (by decide) rfl (fun ls hl => ?_)
        refine lv_aload_n E.1 E.2.1 dX1_bound_73 rfl (lv_at hl 3 rfl) ?_
        refine lv_iload E.1 E.2.1 dX1_bound_74 (lv_at hl 1 rfl) ?_
        refine cV_i E (As := [.int (nI r)]) (rest := []) (cR_isChosen l D ad ca T n kc ko kv k 0 r hIK (by omega)) kR_41 hK hP 0 rfl rfl rfl rfl ⟨Nat.le_of_ble_eq_true rfl, Nat.le_of_ble_eq_true rfl⟩ rfl hl.1 rfl (Nat.le_of_ble_eq_true rfl) dX1_bound_76 ⟨Nat.zero_le _, Nat.zero_le _⟩ ?_
        refine b_if_eq (tgt := 108) E dX1_bound_79 rfl (fun h79 => ?_) (fun h79 => ?_)
        · skip
          refine lv_lload_n E.1 E.2.1 dX1_bound_108 rfl (lv_at hl 2 rfl) ?_
          refine tpl (y := bR (ch T kc ko kv k) (fun t => T t c) d (r + 1)) (bR_n h79) ?_
          refine lv_lstore_n (lv' := [(3, .long (bR (ch T kc ko kv k) (fun t => T t c) d (r + 1))), (6, .long (T r c)), (5, .int (nI r)), (0, .ref (ad 0)), (1, .int (nI c)), (2, .int (bI d))]) E.1 E.2.1 dX1_bound_109 rfl hl (by decide) rfl (fun ls hl => ?_)
          refine lv_iinc (k := 2) (v := nI (r + 1)) (lv' := [(5, .int (nI (r + 1))), (3, .long (bR (ch T kc ko kv k) (fun t => T t c) d (r + 1))), (6, .long (T r c)), (0, .ref (ad 0)), (1, .int (nI c)), (2, .int (bI d))]) E.1 E.2.1 dX1_bound_110 hl rfl (inc1 _) (by decide) rfl (fun ls hl => ?_)
          refine lv_goto (tgt := 44) E.1 E.2.1 dX1_bound_113 rfl ?_
          exact ih44 (r + 1) _ (by omega) (by omega) (lv_sub hl [0, 1, 3, 4, 5] rfl)
        · skip
          refine lv_iload_n E.1 E.2.1 dX1_bound_82 rfl (lv_at hl 5 rfl) ?_
          refine b_if_eq (tgt := 96) E dX1_bound_83 rfl (fun h83 => ?_) (fun h83 => ?_)
          · skip
            refine lv_lload E.1 E.2.1 dX1_bound_96 (lv_at hl 0 rfl) ?_
            refine lv_lload_n E.1 E.2.1 dX1_bound_98 rfl (lv_at hl 2 rfl) ?_
            refine l_if_ge (tgt := 108) E dX1_bound_99 dX1_bound_100 rfl (fun h99 => ?_) (fun h99 => ?_)
            · skip
              refine lv_lload_n E.1 E.2.1 dX1_bound_108 rfl (lv_at hl 2 rfl) ?_
              refine tpl (y := bR (ch T kc ko kv k) (fun t => T t c) d (r + 1)) (bR_f (f := fun t => T t c) h79 (bF_f h83 h99)) ?_
              refine lv_lstore_n (lv' := [(3, .long (bR (ch T kc ko kv k) (fun t => T t c) d (r + 1))), (6, .long (T r c)), (5, .int (nI r)), (0, .ref (ad 0)), (1, .int (nI c)), (2, .int (bI d))]) E.1 E.2.1 dX1_bound_109 rfl hl (by decide) rfl (fun ls hl => ?_)
              refine lv_iinc (k := 2) (v := nI (r + 1)) (lv' := [(5, .int (nI (r + 1))), (3, .long (bR (ch T kc ko kv k) (fun t => T t c) d (r + 1))), (6, .long (T r c)), (0, .ref (ad 0)), (1, .int (nI c)), (2, .int (bI d))]) E.1 E.2.1 dX1_bound_110 hl rfl (inc1 _) (by decide) rfl (fun ls hl => ?_)
              refine lv_goto (tgt := 44) E.1 E.2.1 dX1_bound_113 rfl ?_
              exact ih44 (r + 1) _ (by omega) (by omega) (lv_sub hl [0, 1, 3, 4, 5] rfl)
            · skip
              refine lv_lload E.1 E.2.1 dX1_bound_103 (lv_at hl 0 rfl) ?_
              refine lv_goto (tgt := 109) E.1 E.2.1 dX1_bound_105 rfl ?_
              refine tpl (y := bR (ch T kc ko kv k) (fun t => T t c) d (r + 1)) (bR_t (f := fun t => T t c) h79 (bF_t h83 h99)) ?_
              refine lv_lstore_n (lv' := [(3, .long (bR (ch T kc ko kv k) (fun t => T t c) d (r + 1))), (6, .long (T r c)), (5, .int (nI r)), (0, .ref (ad 0)), (1, .int (nI c)), (2, .int (bI d))]) E.1 E.2.1 dX1_bound_109 rfl hl (by decide) rfl (fun ls hl => ?_)
              refine lv_iinc (k := 2) (v := nI (r + 1)) (lv' := [(5, .int (nI (r + 1))), (3, .long (bR (ch T kc ko kv k) (fun t => T t c) d (r + 1))), (6, .long (T r c)), (0, .ref (ad 0)), (1, .int (nI c)), (2, .int (bI d))]) E.1 E.2.1 dX1_bound_110 hl rfl (inc1 _) (by decide) rfl (fun ls hl => ?_)
              refine lv_goto (tgt := 44) E.1 E.2.1 dX1_bound_113 rfl ?_
              exact ih44 (r + 1) _ (by omega) (by omega) (lv_sub hl [0, 1, 3, 4, 5] rfl)
          · skip
            refine lv_lload E.1 E.2.1 dX1_bound_86 (lv_at hl 0 rfl) ?_
            refine lv_lload_n E.1 E.2.1 dX1_bound_88 rfl (lv_at hl 2 rfl) ?_
            refine l_if_le (tgt := 108) E dX1_bound_89 dX1_bound_90 rfl (fun h89 => ?_) (fun h89 => ?_)
            · skip
              refine lv_lload_n E.1 E.2.1 dX1_bound_108 rfl (lv_at hl 2 rfl) ?_
              refine tpl (y := bR (ch T kc ko kv k) (fun t => T t c) d (r + 1)) (bR_f (f := fun t => T t c) h79 (bT_f h83 h89)) ?_
              refine lv_lstore_n (lv' := [(3, .long (bR (ch T kc ko kv k) (fun t => T t c) d (r + 1))), (6, .long (T r c)), (5, .int (nI r)), (0, .ref (ad 0)), (1, .int (nI c)), (2, .int (bI d))]) E.1 E.2.1 dX1_bound_109 rfl hl (by decide) rfl (fun ls hl => ?_)
              refine lv_iinc (k := 2) (v := nI (r + 1)) (lv' := [(5, .int (nI (r + 1))), (3, .long (bR (ch T kc ko kv k) (fun t => T t c) d (r + 1))), (6, .long (T r c)), (0, .ref (ad 0)), (1, .int (nI c)), (2, .int (bI d))]) E.1 E.2.1 dX1_bound_110 hl rfl (inc1 _) (by decide) rfl (fun ls hl => ?_)
              refine lv_goto (tgt := 44) E.1 E.2.1 dX1_bound_113 rfl ?_
              exact ih44 (r + 1) _ (by omega) (by omega) (lv_sub hl [0, 1, 3, 4, 5] rfl)
            · skip
              refine lv_goto (tgt := 103) E.1 E.2.1 dX1_bound_93 rfl ?_
              refine lv_lload E.1 E.2.1 dX1_bound_103 (lv_at hl 0 rfl) ?_
              refine lv_goto (tgt := 109) E.1 E.2.1 dX1_bound_105 rfl ?_
              refine tpl (y := bR (ch T kc ko kv k) (fun t => T t c) d (r + 1)) (bR_t (f := fun t => T t c) h79 (bT_t h83 h89)) ?_
              refine lv_lstore_n (lv' := [(3, .long (bR (ch T kc ko kv k) (fun t => T t c) d (r + 1))), (6, .long (T r c)), (5, .int (nI r)), (0, .ref (ad 0)), (1, .int (nI c)), (2, .int (bI d))]) E.1 E.2.1 dX1_bound_109 rfl hl (by decide) rfl (fun ls hl => ?_)
              refine lv_iinc (k := 2) (v := nI (r + 1)) (lv' := [(5, .int (nI (r + 1))), (3, .long (bR (ch T kc ko kv k) (fun t => T t c) d (r + 1))), (6, .long (T r c)), (0, .ref (ad 0)), (1, .int (nI c)), (2, .int (bI d))]) E.1 E.2.1 dX1_bound_110 hl rfl (inc1 _) (by decide) rfl (fun ls hl => ?_)
              refine lv_goto (tgt := 44) E.1 E.2.1 dX1_bound_113 rfl ?_
              exact ih44 (r + 1) _ (by omega) (by omega) (lv_sub hl [0, 1, 3, 4, 5] rfl)
    · skip
      refine lv_ldc2 E.1 E.2.1 E.2.2.2.1 (E.2.2.2.2 _ ldR_75) dX1_bound_31 ?_
      refine lv_goto (tgt := 40) E.1 E.2.1 dX1_bound_34 rfl ?_
      refine tpl (y := bR (ch T kc ko kv k) (fun t => T t c) d 0) (by simp [bR, h28]) ?_
      refine lv_lstore_n (lv' := [(3, .long (bR (ch T kc ko kv k) (fun t => T t c) d 0)), (0, .ref (ad 0)), (1, .int (nI c)), (2, .int (bI d))]) E.1 E.2.1 dX1_bound_40 rfl hl (by decide) rfl (fun ls hl => ?_)
      refine lv_iconst (v := nI 0) E.1 E.2.1 dX1_bound_41 rfl ?_
      refine lv_istore (lv' := [(5, .int (nI 0)), (3, .long (bR (ch T kc ko kv k) (fun t => T t c) d 0)), (0, .ref (ad 0)), (1, .int (nI c)), (2, .int (bI d))]) E.1 E.2.1 dX1_bound_42 hl (by decide) rfl (fun ls hl => ?_)
      refine w_lp1 (fun (r : Nat) => r ≤ n) (fun (r : Nat) => n - r) (fun (r : Nat) => [(5, .int (nI r)), (3, .long (bR (ch T kc ko kv k) (fun t => T t c) d r)), (0, .ref (ad 0)), (1, .int (nI c)), (2, .int (bI d))]) 0 (Nat.zero_le _) (lv_sub hl [0, 1, 2, 3, 4] rfl) (fun r ls hI hl ih44 => ?_)
      have hl : lv_has ls 8 [(5, .int (nI r)), (3, .long (bR (ch T kc ko kv k) (fun t => T t c) d r)), (0, .ref (ad 0)), (1, .int (nI c)), (2, .int (bI d))] := hl
      refine lv_iload E.1 E.2.1 dX1_bound_44 (lv_at hl 0 rfl) ?_
      refine lv_aload_n E.1 E.2.1 dX1_bound_46 rfl (lv_at hl 2 rfl) ?_
      refine n_get E inR hK hP 0 rfl rfl 1 (by decide) flR_27 rfl rfl dX1_bound_47 ?_
      refine n_icmp_ge (tgt := 116) E dX1_bound_50 rfl (by omega) (by omega) (fun h50 => ?_) (fun h50 => ?_)
      · skip
        refine lv_aload_n E.1 E.2.1 dX1_bound_116 rfl (lv_at hl 2 rfl) ?_
        refine n_get E inR hK hP 0 rfl rfl 0 (by decide) flR_23 rfl rfl dX1_bound_117 ?_
        refine n_if_ne (tgt := 127) E dX1_bound_120 rfl (by decide) (fun h => absurd h (by decide)) (fun _ => ?_)
        refine lv_lload_n E.1 E.2.1 dX1_bound_123 rfl (lv_at hl 1 rfl) ?_
        refine lv_goto (tgt := 128) E.1 E.2.1 dX1_bound_124 rfl ?_
        exact e_wl E hr hlk hS () (by rw [show n = r by omega]) hP dX1_bound_128
      · skip
        refine lv_aload_n E.1 E.2.1 dX1_bound_53 rfl (lv_at hl 2 rfl) ?_
        refine n_get E inR hK hP 0 rfl rfl 0 (by decide) flR_23 rfl rfl dX1_bound_54 ?_
        refine n_if_ne (tgt := 116) E dX1_bound_57 rfl (by decide) (fun h => absurd h (by decide)) (fun _ => ?_)
        refine lv_aload_n E.1 E.2.1 dX1_bound_60 rfl (lv_at hl 2 rfl) ?_
        refine n_get E inR hK hP 0 rfl rfl 2 (by decide) flR_7 rfl rfl dX1_bound_61 ?_
        refine lv_iconst (v := nI 4) E.1 E.2.1 dX1_bound_64 rfl ?_
        refine lv_iload E.1 E.2.1 dX1_bound_65 (lv_at hl 0 rfl) ?_
        refine n_imul E dX1_bound_67 ?_
        refine lv_iload_n E.1 E.2.1 dX1_bound_68 rfl (lv_at hl 3 rfl) ?_
        refine n_iadd E dX1_bound_69 ?_
        refine n_rald E hK hP 1 0 rfl rfl r c (by omega) (by omega) (by omega) dX1_bound_70 ?_
        refine lv_lstore (lv' := [(6, .long (T r c)), (5, .int (nI r)), (3, .long (bR (ch T kc ko kv k) (fun t => T t c) d r)), (0, .ref (ad 0)), (1, .int (nI c)), (2, .int (bI d))]) E.1 E.2.1 dX1_bound_71 hl (by decide) rfl (fun ls hl => ?_)
        refine lv_aload_n E.1 E.2.1 dX1_bound_73 rfl (lv_at hl 3 rfl) ?_
        refine lv_iload E.1 E.2.1 dX1_bound_74 (lv_at hl 1 rfl) ?_
        refine cV_i E (As := [.int (nI r)]) (rest := []) (cR_isChosen l D ad ca T n kc ko kv k 0 r hIK (by omega)) kR_41 hK hP 0 rfl rfl rfl rfl ⟨Nat.le_of_ble_eq_true rfl, Nat.le_of_ble_eq_true rfl⟩ rfl hl.1 rfl (Nat.le_of_ble_eq_true rfl) dX1_bound_76 ⟨Nat.zero_le _, Nat.zero_le _⟩ ?_
        refine b_if_eq (tgt := 108) E dX1_bound_79 rfl (fun h79 => ?_) (fun h79 => ?_)
        · skip
          refine lv_lload_n E.1 E.2.1 dX1_bound_108 rfl (lv_at hl 2 rfl) ?_
          refine tpl (y := bR (ch T kc ko kv k) (fun t => T t c) d (r + 1)) (bR_n h79) ?_
          refine lv_lstore_n (lv' := [(3, .long (bR (ch T kc ko kv k) (fun t => T t c) d (r + 1))), (6, .long (T r c)), (5, .int (nI r)), (0, .ref (ad 0)), (1, .int (nI c)), (2, .int (bI d))]) E.1 E.2.1 dX1_bound_109 rfl hl (by decide) rfl (fun ls hl => ?_)
          refine lv_iinc (k := 2) (v := nI (r + 1)) (lv' := [(5, .int (nI (r + 1))), (3, .long (bR (ch T kc ko kv k) (fun t => T t c) d (r + 1))), (6, .long (T r c)), (0, .ref (ad 0)), (1, .int (nI c)), (2, .int (bI d))]) E.1 E.2.1 dX1_bound_110 hl rfl (inc1 _) (by decide) rfl (fun ls hl => ?_)
          refine lv_goto (tgt := 44) E.1 E.2.1 dX1_bound_113 rfl ?_
          exact ih44 (r + 1) _ (by omega) (by omega) (lv_sub hl [0, 1, 3, 4, 5] rfl)
        · skip
          refine lv_iload_n E.1 E.2.1 dX1_bound_82 rfl (lv_at hl 5 rfl) ?_
          refine b_if_eq (tgt := 96) E dX1_bound_83 rfl (fun h83 => ?_) (fun h83 => ?_)
          · skip
            refine lv_lload E.1 E.2.1 dX1_bound_96 (lv_at hl 0 rfl) ?_
            refine lv_lload_n E.1 E.2.1 dX1_bound_98 rfl (lv_at hl 2 rfl) ?_
            refine l_if_ge (tgt := 108) E dX1_bound_99 dX1_bound_100 rfl (fun h99 => ?_) (fun h99 => ?_)
            · skip
              refine lv_lload_n E.1 E.2.1 dX1_bound_108 rfl (lv_at hl 2 rfl) ?_
              refine tpl (y := bR (ch T kc ko kv k) (fun t => T t c) d (r + 1)) (bR_f (f := fun t => T t c) h79 (bF_f h83 h99)) ?_
              refine lv_lstore_n (lv' := [(3, .long (bR (ch T kc ko kv k) (fun t => T t c) d (r + 1))), (6, .long (T r c)), (5, .int (nI r)), (0, .ref (ad 0)), (1, .int (nI c)), (2, .int (bI d))]) E.1 E.2.1 dX1_bound_109 rfl hl (by decide) rfl (fun ls hl => ?_)
              refine lv_iinc (k := 2) (v := nI (r + 1)) (lv' := [(5, .int (nI (r + 1))), (3, .long (bR (ch T kc ko kv k) (fun t => T t c) d (r + 1))), (6, .long (T r c)), (0, .ref (ad 0)), (1, .int (nI c)), (2, .int (bI d))]) E.1 E.2.1 dX1_bound_110 hl rfl (inc1 _) (by decide) rfl (fun ls hl => ?_)
              refine lv_goto (tgt := 44) E.1 E.2.1 dX1_bound_113 rfl ?_
              exact ih44 (r + 1) _ (by omega) (by omega) (lv_sub hl [0, 1, 3, 4, 5] rfl)
            · skip
              refine lv_lload E.1 E.2.1 dX1_bound_103 (lv_at hl 0 rfl) ?_
              refine lv_goto (tgt := 109) E.1 E.2.1 dX1_bound_105 rfl ?_
              refine tpl (y := bR (ch T kc ko kv k) (fun t => T t c) d (r + 1)) (bR_t (f := fun t => T t c) h79 (bF_t h83 h99)) ?_
              refine lv_lstore_n (lv' := [(3, .long (bR (ch T kc ko kv k) (fun t => T t c) d (r + 1))), (6, .long (T r c)), (5, .int (nI r)), (0, .ref (ad 0)), (1, .int (nI c)), (2, .int (bI d))]) E.1 E.2.1 dX1_bound_109 rfl hl (by decide) rfl (fun ls hl => ?_)
              refine lv_iinc (k := 2) (v := nI (r + 1)) (lv' := [(5, .int (nI (r + 1))), (3, .long (bR (ch T kc ko kv k) (fun t => T t c) d (r + 1))), (6, .long (T r c)), (0, .ref (ad 0)), (1, .int (nI c)), (2, .int (bI d))]) E.1 E.2.1 dX1_bound_110 hl rfl (inc1 _) (by decide) rfl (fun ls hl => ?_)
              refine lv_goto (tgt := 44) E.1 E.2.1 dX1_bound_113 rfl ?_
              exact ih44 (r + 1) _ (by omega) (by omega) (lv_sub hl [0, 1, 3, 4, 5] rfl)
          · skip
            refine lv_lload E.1 E.2.1 dX1_bound_86 (lv_at hl 0 rfl) ?_
            refine lv_lload_n E.1 E.2.1 dX1_bound_88 rfl (lv_at hl 2 rfl) ?_
            refine l_if_le (tgt := 108) E dX1_bound_89 dX1_bound_90 rfl (fun h89 => ?_) (fun h89 => ?_)
            · skip
              refine lv_lload_n E.1 E.2.1 dX1_bound_108 rfl (lv_at hl 2 rfl) ?_
              refine tpl (y := bR (ch T kc ko kv k) (fun t => T t c) d (r + 1)) (bR_f (f := fun t => T t c) h79 (bT_f h83 h89)) ?_
              refine lv_lstore_n (lv' := [(3, .long (bR (ch T kc ko kv k) (fun t => T t c) d (r + 1))), (6, .long (T r c)), (5, .int (nI r)), (0, .ref (ad 0)), (1, .int (nI c)), (2, .int (bI d))]) E.1 E.2.1 dX1_bound_109 rfl hl (by decide) rfl (fun ls hl => ?_)
              refine lv_iinc (k := 2) (v := nI (r + 1)) (lv' := [(5, .int (nI (r + 1))), (3, .long (bR (ch T kc ko kv k) (fun t => T t c) d (r + 1))), (6, .long (T r c)), (0, .ref (ad 0)), (1, .int (nI c)), (2, .int (bI d))]) E.1 E.2.1 dX1_bound_110 hl rfl (inc1 _) (by decide) rfl (fun ls hl => ?_)
              refine lv_goto (tgt := 44) E.1 E.2.1 dX1_bound_113 rfl ?_
              exact ih44 (r + 1) _ (by omega) (by omega) (lv_sub hl [0, 1, 3, 4, 5] rfl)
            · skip
              refine lv_goto (tgt := 103) E.1 E.2.1 dX1_bound_93 rfl ?_
              refine lv_lload E.1 E.2.1 dX1_bound_103 (lv_at hl 0 rfl) ?_
              refine lv_goto (tgt := 109) E.1 E.2.1 dX1_bound_105 rfl ?_
              refine tpl (y := bR (ch T kc ko kv k) (fun t => T t c) d (r + 1)) (bR_t (f := fun t => T t c) h79 (bT_t h83 h89)) ?_
              refine lv_lstore_n (lv' := [(3, .long (bR (ch T kc ko kv k) (fun t => T t c) d (r + 1))), (6, .long (T r c)), (5, .int (nI r)), (0, .ref (ad 0)), (1, .int (nI c)), (2, .int (bI d))]) E.1 E.2.1 dX1_bound_109 rfl hl (by decide) rfl (fun ls hl => ?_)
              refine lv_iinc (k := 2) (v := nI (r + 1)) (lv' := [(5, .int (nI (r + 1))), (3, .long (bR (ch T kc ko kv k) (fun t => T t c) d (r + 1))), (6, .long (T r c)), (0, .ref (ad 0)), (1, .int (nI c)), (2, .int (bI d))]) E.1 E.2.1 dX1_bound_110 hl rfl (inc1 _) (by decide) rfl (fun ls hl => ?_)
              refine lv_goto (tgt := 44) E.1 E.2.1 dX1_bound_113 rfl ?_
              exact ih44 (r + 1) _ (by omega) (by omega) (lv_sub hl [0, 1, 3, 4, 5] rfl)
  · skip
    exfalso; omega
set_option maxHeartbeats 4000000 in
set_option maxRecDepth 100000 in
theorem cR_bound1 (l : Launch) (D : va_G) (ad : Nat → Nat) (ca : Nat → ClassId) (T : Nat → Nat → Int64) (n : Nat) (kc ko : Nat → Nat) (kv : Nat → Int64) (k cd : Nat) (x : Int32) (d : Bool) (hN : inj ad 5) (hn128 : n ≤ 128) (hx : isC x = false) : Met l yX1_bound (wA yX1_bound cX1_bound 8 (some .long)) (rN 3) (va_Pc [.ref (ad 0), .int x, .int (bI d)] (pW D c2 (tR ca) (wR ad ca T n kc ko kv k cd))) (qL (fun z (_ : Unit) => True) D c2 (fun _ => wR ad ca T n kc ko kv k 1) (fA ad 5)) 0 0 (fA ad 5) := by
  refine met_of RX1 rfl (by decide) (Nat.le_of_ble_eq_true rfl) (fun p e s m below meth cd0 ls E hr hlk _ hB hl => ?_)
  obtain ⟨hP, hK⟩ := hB
  have hl : lv_has ls 8 [(0, .ref (ad 0)), (1, .int x), (2, .int (bI d))] := hl
  have hS : va_S (fA ad 5) s.heap s.heap [] := va_S.rf
  refine lv_aload_n E.1 E.2.1 dX1_bound_0 rfl (lv_at hl 0 rfl) ?_
  refine lv_iload_n E.1 E.2.1 dX1_bound_1 rfl (lv_at hl 1 rfl) ?_
  refine cS_i E (As := [.int x]) (rest := [.ref (ad 0)]) (cR_isColumn l x) kR_30 rfl rfl ⟨Nat.le_of_ble_eq_true rfl, Nat.le_of_ble_eq_true rfl⟩ rfl hl.1 rfl (Nat.le_of_ble_eq_true rfl) dX1_bound_2 ⟨Nat.zero_le _, Nat.zero_le _⟩ ?_
  refine tpi (y := bI false) (congrArg bI hx) ?_
  refine b_if_ne (tgt := 12) E dX1_bound_5 rfl (fun h => Bool.noConfusion h) (fun _ => ?_)
  refine lv_iconst (v := nI 1) E.1 E.2.1 dX1_bound_8 rfl ?_
  refine lv_goto (tgt := 24) E.1 E.2.1 dX1_bound_9 rfl ?_
  refine n_put E inR tyR1 tyR1_ok nmR1 hK hP (dW hN rfl) hS 0 rfl rfl 0 (by decide) flR_23 rfl rfl (tyR1_ok 0 (by decide)) (Nat.le_of_ble_eq_true rfl) dX1_bound_24 (fun H locs hP hS => ?_)
  have hP : va_P D c2 (wR ad ca T n kc ko kv k 1) H := hP
  refine lv_iload_n E.1 E.2.1 dX1_bound_27 rfl (lv_at hl 2 rfl) ?_
  refine b_if_eq (tgt := 37) E dX1_bound_28 rfl (fun h28 => ?_) (fun h28 => ?_)
  · skip
    refine lv_ldc2 E.1 E.2.1 E.2.2.2.1 (E.2.2.2.2 _ ldR_77) dX1_bound_37 ?_
    refine lv_lstore_n (lv' := [(3, .long 9223372036854775807), (0, .ref (ad 0)), (1, .int x), (2, .int (bI d))]) E.1 E.2.1 dX1_bound_40 rfl hl (by decide) rfl (fun ls hl => ?_)
    refine lv_iconst (v := nI 0) E.1 E.2.1 dX1_bound_41 rfl ?_
    refine lv_istore (lv' := [(5, .int (nI 0)), (3, .long 9223372036854775807), (0, .ref (ad 0)), (1, .int x), (2, .int (bI d))]) E.1 E.2.1 dX1_bound_42 hl (by decide) rfl (fun ls hl => ?_)
    refine lv_iload E.1 E.2.1 dX1_bound_44 (lv_at hl 0 rfl) ?_
    refine lv_aload_n E.1 E.2.1 dX1_bound_46 rfl (lv_at hl 2 rfl) ?_
    refine n_get E inR hK hP 0 rfl rfl 1 (by decide) flR_27 rfl rfl dX1_bound_47 ?_
    refine n_icmp_ge (tgt := 116) E dX1_bound_50 rfl (by omega) (by omega) (fun h50 => ?_) (fun h50 => ?_)
    · skip
      refine lv_aload_n E.1 E.2.1 dX1_bound_116 rfl (lv_at hl 2 rfl) ?_
      refine n_get E inR hK hP 0 rfl rfl 0 (by decide) flR_23 rfl rfl dX1_bound_117 ?_
      refine n_if_ne (tgt := 127) E dX1_bound_120 rfl (by decide) (fun _ => ?_) (fun h => absurd h (by decide))
      refine lv_lconst (v := 0) E.1 E.2.1 dX1_bound_127 rfl ?_
      exact e_wl E hr hlk hS () trivial hP dX1_bound_128
    · skip
      refine lv_aload_n E.1 E.2.1 dX1_bound_53 rfl (lv_at hl 2 rfl) ?_
      refine n_get E inR hK hP 0 rfl rfl 0 (by decide) flR_23 rfl rfl dX1_bound_54 ?_
      refine n_if_ne (tgt := 116) E dX1_bound_57 rfl (by decide) (fun _ => ?_) (fun h => absurd h (by decide))
      refine lv_aload_n E.1 E.2.1 dX1_bound_116 rfl (lv_at hl 2 rfl) ?_
      refine n_get E inR hK hP 0 rfl rfl 0 (by decide) flR_23 rfl rfl dX1_bound_117 ?_
      refine n_if_ne (tgt := 127) E dX1_bound_120 rfl (by decide) (fun _ => ?_) (fun h => absurd h (by decide))
      refine lv_lconst (v := 0) E.1 E.2.1 dX1_bound_127 rfl ?_
      exact e_wl E hr hlk hS () trivial hP dX1_bound_128
  · skip
    refine lv_ldc2 E.1 E.2.1 E.2.2.2.1 (E.2.2.2.2 _ ldR_75) dX1_bound_31 ?_
    refine lv_goto (tgt := 40) E.1 E.2.1 dX1_bound_34 rfl ?_
    refine lv_lstore_n (lv' := [(3, .long (-9223372036854775808)), (0, .ref (ad 0)), (1, .int x), (2, .int (bI d))]) E.1 E.2.1 dX1_bound_40 rfl hl (by decide) rfl (fun ls hl => ?_)
    refine lv_iconst (v := nI 0) E.1 E.2.1 dX1_bound_41 rfl ?_
    refine lv_istore (lv' := [(5, .int (nI 0)), (3, .long (-9223372036854775808)), (0, .ref (ad 0)), (1, .int x), (2, .int (bI d))]) E.1 E.2.1 dX1_bound_42 hl (by decide) rfl (fun ls hl => ?_)
    refine lv_iload E.1 E.2.1 dX1_bound_44 (lv_at hl 0 rfl) ?_
    refine lv_aload_n E.1 E.2.1 dX1_bound_46 rfl (lv_at hl 2 rfl) ?_
    refine n_get E inR hK hP 0 rfl rfl 1 (by decide) flR_27 rfl rfl dX1_bound_47 ?_
    refine n_icmp_ge (tgt := 116) E dX1_bound_50 rfl (by omega) (by omega) (fun h50 => ?_) (fun h50 => ?_)
    · skip
      refine lv_aload_n E.1 E.2.1 dX1_bound_116 rfl (lv_at hl 2 rfl) ?_
      refine n_get E inR hK hP 0 rfl rfl 0 (by decide) flR_23 rfl rfl dX1_bound_117 ?_
      refine n_if_ne (tgt := 127) E dX1_bound_120 rfl (by decide) (fun _ => ?_) (fun h => absurd h (by decide))
      refine lv_lconst (v := 0) E.1 E.2.1 dX1_bound_127 rfl ?_
      exact e_wl E hr hlk hS () trivial hP dX1_bound_128
    · skip
      refine lv_aload_n E.1 E.2.1 dX1_bound_53 rfl (lv_at hl 2 rfl) ?_
      refine n_get E inR hK hP 0 rfl rfl 0 (by decide) flR_23 rfl rfl dX1_bound_54 ?_
      refine n_if_ne (tgt := 116) E dX1_bound_57 rfl (by decide) (fun _ => ?_) (fun h => absurd h (by decide))
      refine lv_aload_n E.1 E.2.1 dX1_bound_116 rfl (lv_at hl 2 rfl) ?_
      refine n_get E inR hK hP 0 rfl rfl 0 (by decide) flR_23 rfl rfl dX1_bound_117 ?_
      refine n_if_ne (tgt := 127) E dX1_bound_120 rfl (by decide) (fun _ => ?_) (fun h => absurd h (by decide))
      refine lv_lconst (v := 0) E.1 E.2.1 dX1_bound_127 rfl ?_
      exact e_wl E hr hlk hS () trivial hP dX1_bound_128
set_option maxHeartbeats 4000000 in
set_option maxRecDepth 100000 in
theorem cR_bound2 (l : Launch) (D : va_G) (ad : Nat → Nat) (ca : Nat → ClassId) (T : Nat → Nat → Int64) (n : Nat) (kc ko : Nat → Nat) (kv : Nat → Int64) (k cd : Nat) (c : Nat) (d : Bool) (hN : inj ad 5) (hIK : iK kc ko k) (hn128 : n ≤ 128) (hc : c < 4) (hpos : ct (ch T kc ko kv k) n = 0) : Met l yX1_bound (wA yX1_bound cX1_bound 8 (some .long)) (rN 3) (va_Pc [.ref (ad 0), .int (nI c), .int (bI d)] (pW D c2 (tR ca) (wR ad ca T n kc ko kv k cd))) (qL (fun z (_ : Unit) => True) D c2 (fun _ => wR ad ca T n kc ko kv k 2) (fA ad 5)) 0 0 (fA ad 5) := by
  refine met_of RX1 rfl (by decide) (Nat.le_of_ble_eq_true rfl) (fun p e s m below meth cd0 ls E hr hlk _ hB hl => ?_)
  obtain ⟨hP, hK⟩ := hB
  have hl : lv_has ls 8 [(0, .ref (ad 0)), (1, .int (nI c)), (2, .int (bI d))] := hl
  have hS : va_S (fA ad 5) s.heap s.heap [] := va_S.rf
  refine lv_aload_n E.1 E.2.1 dX1_bound_0 rfl (lv_at hl 0 rfl) ?_
  refine lv_iload_n E.1 E.2.1 dX1_bound_1 rfl (lv_at hl 1 rfl) ?_
  refine cS_i E (As := [.int (nI c)]) (rest := [.ref (ad 0)]) (cR_isColumn l (nI c)) kR_30 rfl rfl ⟨Nat.le_of_ble_eq_true rfl, Nat.le_of_ble_eq_true rfl⟩ rfl hl.1 rfl (Nat.le_of_ble_eq_true rfl) dX1_bound_2 ⟨Nat.zero_le _, Nat.zero_le _⟩ ?_
  refine tpi (y := bI true) (congrArg bI (isC_n (by omega))) ?_
  refine b_if_ne (tgt := 12) E dX1_bound_5 rfl (fun _ => ?_) (fun h => Bool.noConfusion h)
  refine lv_aload_n E.1 E.2.1 dX1_bound_12 rfl (lv_at hl 0 rfl) ?_
  refine cV_i E (As := []) (rest := [.ref (ad 0)]) (cR_countChosen l D ad ca T n kc ko kv k cd hIK hn128) kR_44 hK hP 0 rfl rfl rfl rfl ⟨Nat.le_of_ble_eq_true rfl, Nat.le_of_ble_eq_true rfl⟩ rfl hl.1 rfl (Nat.le_of_ble_eq_true rfl) dX1_bound_13 ⟨Nat.zero_le _, Nat.zero_le _⟩ ?_
  refine n_if_ne (tgt := 23) E dX1_bound_16 rfl (by omega) (fun h16 => ?_) (fun h16 => ?_)
  · skip
    exfalso; omega
  · skip
    refine lv_iconst (v := nI 2) E.1 E.2.1 dX1_bound_19 rfl ?_
    refine lv_goto (tgt := 24) E.1 E.2.1 dX1_bound_20 rfl ?_
    refine n_put E inR tyR1 tyR1_ok nmR1 hK hP (dW hN rfl) hS 0 rfl rfl 0 (by decide) flR_23 rfl rfl (tyR1_ok 0 (by decide)) (Nat.le_of_ble_eq_true rfl) dX1_bound_24 (fun H locs hP hS => ?_)
    have hP : va_P D c2 (wR ad ca T n kc ko kv k 2) H := hP
    refine lv_iload_n E.1 E.2.1 dX1_bound_27 rfl (lv_at hl 2 rfl) ?_
    refine b_if_eq (tgt := 37) E dX1_bound_28 rfl (fun h28 => ?_) (fun h28 => ?_)
    · skip
      refine lv_ldc2 E.1 E.2.1 E.2.2.2.1 (E.2.2.2.2 _ ldR_77) dX1_bound_37 ?_
      refine lv_lstore_n (lv' := [(3, .long 9223372036854775807), (0, .ref (ad 0)), (1, .int (nI c)), (2, .int (bI d))]) E.1 E.2.1 dX1_bound_40 rfl hl (by decide) rfl (fun ls hl => ?_)
      refine lv_iconst (v := nI 0) E.1 E.2.1 dX1_bound_41 rfl ?_
      refine lv_istore (lv' := [(5, .int (nI 0)), (3, .long 9223372036854775807), (0, .ref (ad 0)), (1, .int (nI c)), (2, .int (bI d))]) E.1 E.2.1 dX1_bound_42 hl (by decide) rfl (fun ls hl => ?_)
      refine lv_iload E.1 E.2.1 dX1_bound_44 (lv_at hl 0 rfl) ?_
      refine lv_aload_n E.1 E.2.1 dX1_bound_46 rfl (lv_at hl 2 rfl) ?_
      refine n_get E inR hK hP 0 rfl rfl 1 (by decide) flR_27 rfl rfl dX1_bound_47 ?_
      refine n_icmp_ge (tgt := 116) E dX1_bound_50 rfl (by omega) (by omega) (fun h50 => ?_) (fun h50 => ?_)
      · skip
        refine lv_aload_n E.1 E.2.1 dX1_bound_116 rfl (lv_at hl 2 rfl) ?_
        refine n_get E inR hK hP 0 rfl rfl 0 (by decide) flR_23 rfl rfl dX1_bound_117 ?_
        refine n_if_ne (tgt := 127) E dX1_bound_120 rfl (by decide) (fun _ => ?_) (fun h => absurd h (by decide))
        refine lv_lconst (v := 0) E.1 E.2.1 dX1_bound_127 rfl ?_
        exact e_wl E hr hlk hS () trivial hP dX1_bound_128
      · skip
        refine lv_aload_n E.1 E.2.1 dX1_bound_53 rfl (lv_at hl 2 rfl) ?_
        refine n_get E inR hK hP 0 rfl rfl 0 (by decide) flR_23 rfl rfl dX1_bound_54 ?_
        refine n_if_ne (tgt := 116) E dX1_bound_57 rfl (by decide) (fun _ => ?_) (fun h => absurd h (by decide))
        refine lv_aload_n E.1 E.2.1 dX1_bound_116 rfl (lv_at hl 2 rfl) ?_
        refine n_get E inR hK hP 0 rfl rfl 0 (by decide) flR_23 rfl rfl dX1_bound_117 ?_
        refine n_if_ne (tgt := 127) E dX1_bound_120 rfl (by decide) (fun _ => ?_) (fun h => absurd h (by decide))
        refine lv_lconst (v := 0) E.1 E.2.1 dX1_bound_127 rfl ?_
        exact e_wl E hr hlk hS () trivial hP dX1_bound_128
    · skip
      refine lv_ldc2 E.1 E.2.1 E.2.2.2.1 (E.2.2.2.2 _ ldR_75) dX1_bound_31 ?_
      refine lv_goto (tgt := 40) E.1 E.2.1 dX1_bound_34 rfl ?_
      refine lv_lstore_n (lv' := [(3, .long (-9223372036854775808)), (0, .ref (ad 0)), (1, .int (nI c)), (2, .int (bI d))]) E.1 E.2.1 dX1_bound_40 rfl hl (by decide) rfl (fun ls hl => ?_)
      refine lv_iconst (v := nI 0) E.1 E.2.1 dX1_bound_41 rfl ?_
      refine lv_istore (lv' := [(5, .int (nI 0)), (3, .long (-9223372036854775808)), (0, .ref (ad 0)), (1, .int (nI c)), (2, .int (bI d))]) E.1 E.2.1 dX1_bound_42 hl (by decide) rfl (fun ls hl => ?_)
      refine lv_iload E.1 E.2.1 dX1_bound_44 (lv_at hl 0 rfl) ?_
      refine lv_aload_n E.1 E.2.1 dX1_bound_46 rfl (lv_at hl 2 rfl) ?_
      refine n_get E inR hK hP 0 rfl rfl 1 (by decide) flR_27 rfl rfl dX1_bound_47 ?_
      refine n_icmp_ge (tgt := 116) E dX1_bound_50 rfl (by omega) (by omega) (fun h50 => ?_) (fun h50 => ?_)
      · skip
        refine lv_aload_n E.1 E.2.1 dX1_bound_116 rfl (lv_at hl 2 rfl) ?_
        refine n_get E inR hK hP 0 rfl rfl 0 (by decide) flR_23 rfl rfl dX1_bound_117 ?_
        refine n_if_ne (tgt := 127) E dX1_bound_120 rfl (by decide) (fun _ => ?_) (fun h => absurd h (by decide))
        refine lv_lconst (v := 0) E.1 E.2.1 dX1_bound_127 rfl ?_
        exact e_wl E hr hlk hS () trivial hP dX1_bound_128
      · skip
        refine lv_aload_n E.1 E.2.1 dX1_bound_53 rfl (lv_at hl 2 rfl) ?_
        refine n_get E inR hK hP 0 rfl rfl 0 (by decide) flR_23 rfl rfl dX1_bound_54 ?_
        refine n_if_ne (tgt := 116) E dX1_bound_57 rfl (by decide) (fun _ => ?_) (fun h => absurd h (by decide))
        refine lv_aload_n E.1 E.2.1 dX1_bound_116 rfl (lv_at hl 2 rfl) ?_
        refine n_get E inR hK hP 0 rfl rfl 0 (by decide) flR_23 rfl rfl dX1_bound_117 ?_
        refine n_if_ne (tgt := 127) E dX1_bound_120 rfl (by decide) (fun _ => ?_) (fun h => absurd h (by decide))
        refine lv_lconst (v := 0) E.1 E.2.1 dX1_bound_127 rfl ?_
        exact e_wl E hr hlk hS () trivial hP dX1_bound_128
end
section
/-! Contracts of the model: laid by program (wip/whole/gen.py). -/
set_option maxHeartbeats 4000000 in
set_option maxRecDepth 100000 in
theorem cR_ranked (l : Launch) (D : va_G) (ad : Nat → Nat) (ca : Nat → ClassId) (T : Nat → Nat → Int64) (n : Nat) (kc ko : Nat → Nat) (kv : Nat → Int64) (k cd : Nat) (c i r : Nat) (hN : inj ad 5) (hIK : iK kc ko k) (hn128 : n ≤ 128) (hc : c < 4) (hi0 : i ≤ 128) (hr0 : r < n) (hPr : (ch T kc ko kv k) r = true) (hri : ct (fun u => (ch T kc ko kv k) u && bfb T c true u r) n = i) (hru : ∀ t, t < n → (ch T kc ko kv k) t = true → ct (fun u => (ch T kc ko kv k) u && bfb T c true u t) n = i → t = r) : Met l yX1_ranked (wA yX1_ranked cX1_ranked 10 (some .int)) (rN 2) (va_Pc [.ref (ad 0), .int (nI c), .int (nI i)] (pW D c2 (tR ca) (wR ad ca T n kc ko kv k cd))) (qI (fun z (_ : Unit) => z = nI r) D c2 (fun _ => wR ad ca T n kc ko kv k 0) (fA ad 5)) 0 0 (fA ad 5) := by
  refine met_of RX1 rfl (by decide) (Nat.le_of_ble_eq_true rfl) (fun p e s m below meth cd0 ls E hr hlk _ hB hl => ?_)
  obtain ⟨hP, hK⟩ := hB
  have hl : lv_has ls 10 [(0, .ref (ad 0)), (1, .int (nI c)), (2, .int (nI i))] := hl
  have hS : va_S (fA ad 5) s.heap s.heap [] := va_S.rf
  refine lv_aload_n E.1 E.2.1 dX1_ranked_0 rfl (lv_at hl 0 rfl) ?_
  refine lv_iload_n E.1 E.2.1 dX1_ranked_1 rfl (lv_at hl 1 rfl) ?_
  refine cS_i E (As := [.int (nI c)]) (rest := [.ref (ad 0)]) (cR_isColumn l (nI c)) kR_30 rfl rfl ⟨Nat.le_of_ble_eq_true rfl, Nat.le_of_ble_eq_true rfl⟩ rfl hl.1 rfl (Nat.le_of_ble_eq_true rfl) dX1_ranked_2 ⟨Nat.zero_le _, Nat.zero_le _⟩ ?_
  refine tpi (y := bI true) (congrArg bI (isC_n (by omega))) ?_
  refine b_if_ne (tgt := 12) E dX1_ranked_5 rfl (fun _ => ?_) (fun h => Bool.noConfusion h)
  refine lv_iconst (v := nI 0) E.1 E.2.1 dX1_ranked_12 rfl ?_
  refine n_put E inR tyR1 tyR1_ok nmR1 hK hP (dW hN rfl) hS 0 rfl rfl 0 (by decide) flR_23 rfl rfl (tyR1_ok 0 (by decide)) (Nat.le_of_ble_eq_true rfl) dX1_ranked_13 (fun H locs hP hS => ?_)
  have hP : va_P D c2 (wR ad ca T n kc ko kv k 0) H := hP
  refine lv_aload_n E.1 E.2.1 dX1_ranked_16 rfl (lv_at hl 0 rfl) ?_
  refine n_get E inR hK hP 0 rfl rfl 0 (by decide) flR_23 rfl rfl dX1_ranked_17 ?_
  refine n_if_le (tgt := 25) E dX1_ranked_20 rfl (by decide) (fun _ => ?_) (fun h => absurd h (by decide))
  refine lv_iconst (v := nI 0) E.1 E.2.1 dX1_ranked_25 rfl ?_
  refine lv_istore_n (lv' := [(3, .int (nI 0)), (0, .ref (ad 0)), (1, .int (nI c)), (2, .int (nI i))]) E.1 E.2.1 dX1_ranked_26 rfl hl (by decide) rfl (fun ls hl => ?_)
  refine w_lp1 (fun (t : Nat) => t ≤ r) (fun (t : Nat) => n - t) (fun (t : Nat) => [(3, .int (nI t)), (0, .ref (ad 0)), (1, .int (nI c)), (2, .int (nI i))]) 0 (Nat.zero_le _) (lv_sub hl [0, 1, 2, 3] rfl) (fun t ls hI hl ih27 => ?_)
  have hl : lv_has ls 10 [(3, .int (nI t)), (0, .ref (ad 0)), (1, .int (nI c)), (2, .int (nI i))] := hl
  have hI27 := hI
  refine lv_iload_n E.1 E.2.1 dX1_ranked_27 rfl (lv_at hl 0 rfl) ?_
  refine lv_aload_n E.1 E.2.1 dX1_ranked_28 rfl (lv_at hl 1 rfl) ?_
  refine n_get E inR hK hP 0 rfl rfl 1 (by decide) flR_27 rfl rfl dX1_ranked_29 ?_
  refine n_icmp_ge (tgt := 144) E dX1_ranked_32 rfl (by omega) (by omega) (fun h32 => ?_) (fun h32 => ?_)
  · skip
    exfalso; omega
  · skip
    refine lv_iconst (v := nI 0) E.1 E.2.1 dX1_ranked_35 rfl ?_
    refine lv_istore (lv' := [(4, .int (nI 0)), (3, .int (nI t)), (0, .ref (ad 0)), (1, .int (nI c)), (2, .int (nI i))]) E.1 E.2.1 dX1_ranked_36 hl (by decide) rfl (fun ls hl => ?_)
    refine lv_iconst (v := nI 0) E.1 E.2.1 dX1_ranked_38 rfl ?_
    refine lv_istore (lv' := [(5, .int (nI 0)), (4, .int (nI 0)), (3, .int (nI t)), (0, .ref (ad 0)), (1, .int (nI c)), (2, .int (nI i))]) E.1 E.2.1 dX1_ranked_39 hl (by decide) rfl (fun ls hl => ?_)
    refine w_lp1 (fun (u : Nat) => u ≤ n) (fun (u : Nat) => n - u) (fun (u : Nat) => [(5, .int (nI u)), (4, .int (nI (ct (fun u => (ch T kc ko kv k) u && bfb T c true u t) u))), (3, .int (nI t)), (0, .ref (ad 0)), (1, .int (nI c)), (2, .int (nI i))]) 0 (Nat.zero_le _) (lv_sub hl [0, 1, 2, 3, 4, 5] rfl) (fun u ls hI hl ih41 => ?_)
    have hl : lv_has ls 10 [(5, .int (nI u)), (4, .int (nI (ct (fun u => (ch T kc ko kv k) u && bfb T c true u t) u))), (3, .int (nI t)), (0, .ref (ad 0)), (1, .int (nI c)), (2, .int (nI i))] := hl
    refine lv_iload E.1 E.2.1 dX1_ranked_41 (lv_at hl 0 rfl) ?_
    refine lv_aload_n E.1 E.2.1 dX1_ranked_43 rfl (lv_at hl 3 rfl) ?_
    refine n_get E inR hK hP 0 rfl rfl 1 (by decide) flR_27 rfl rfl dX1_ranked_44 ?_
    refine n_icmp_ge (tgt := 122) E dX1_ranked_47 rfl (by omega) (by omega) (fun h47 => ?_) (fun h47 => ?_)
    · skip
      have e9 : u = n := by omega
      rw [e9] at hl
      have hctn := ct_le (fun u => (ch T kc ko kv k) u && bfb T c true u t) n
      refine lv_aload_n E.1 E.2.1 dX1_ranked_122 rfl (lv_at hl 3 rfl) ?_
      refine lv_iload_n E.1 E.2.1 dX1_ranked_123 rfl (lv_at hl 2 rfl) ?_
      refine cV_i E (As := [.int (nI t)]) (rest := []) (cR_isChosen l D ad ca T n kc ko kv k 0 t hIK (by omega)) kR_41 hK hP 0 rfl rfl rfl rfl ⟨Nat.le_of_ble_eq_true rfl, Nat.le_of_ble_eq_true rfl⟩ rfl hl.1 rfl (Nat.le_of_ble_eq_true rfl) dX1_ranked_124 ⟨Nat.zero_le _, Nat.zero_le _⟩ ?_
      refine b_if_eq (tgt := 138) E dX1_ranked_127 rfl (fun h127 => ?_) (fun h127 => ?_)
      · skip
        refine lv_iinc (k := 2) (v := nI (t + 1)) (lv' := [(3, .int (nI (t + 1))), (5, .int (nI n)), (4, .int (nI (ct (fun u => (ch T kc ko kv k) u && bfb T c true u t) n))), (0, .ref (ad 0)), (1, .int (nI c)), (2, .int (nI i))]) E.1 E.2.1 dX1_ranked_138 hl rfl (inc1 _) (by decide) rfl (fun ls hl => ?_)
        refine lv_goto (tgt := 27) E.1 E.2.1 dX1_ranked_141 rfl ?_
        exact ih27 (t + 1) _ (lt_of_ne_le hI27 (fun e => by rw [e, hPr] at h127; cases h127)) (by omega) (lv_sub hl [0, 3, 4, 5] rfl)
      · skip
        refine lv_iload E.1 E.2.1 dX1_ranked_130 (lv_at hl 1 rfl) ?_
        refine lv_iload_n E.1 E.2.1 dX1_ranked_132 rfl (lv_at hl 5 rfl) ?_
        refine n_icmp_ne (tgt := 138) E dX1_ranked_133 rfl (by omega) (by omega) (fun h133 => ?_) (fun h133 => ?_)
        · skip
          refine lv_iinc (k := 2) (v := nI (t + 1)) (lv' := [(3, .int (nI (t + 1))), (5, .int (nI n)), (4, .int (nI (ct (fun u => (ch T kc ko kv k) u && bfb T c true u t) n))), (0, .ref (ad 0)), (1, .int (nI c)), (2, .int (nI i))]) E.1 E.2.1 dX1_ranked_138 hl rfl (inc1 _) (by decide) rfl (fun ls hl => ?_)
          refine lv_goto (tgt := 27) E.1 E.2.1 dX1_ranked_141 rfl ?_
          exact ih27 (t + 1) _ (lt_of_ne_le hI27 (fun e => h133 (by rw [e]; exact hri))) (by omega) (lv_sub hl [0, 3, 4, 5] rfl)
        · skip
          refine lv_iload_n E.1 E.2.1 dX1_ranked_136 rfl (lv_at hl 2 rfl) ?_
          exact e_wi E hr hlk hS () (congrArg nI (hru t (by omega) h127 h133)) hP dX1_ranked_137
    · skip
      refine lv_aload_n E.1 E.2.1 dX1_ranked_50 rfl (lv_at hl 3 rfl) ?_
      refine n_get E inR hK hP 0 rfl rfl 2 (by decide) flR_7 rfl rfl dX1_ranked_51 ?_
      refine lv_iconst (v := nI 4) E.1 E.2.1 dX1_ranked_54 rfl ?_
      refine lv_iload E.1 E.2.1 dX1_ranked_55 (lv_at hl 0 rfl) ?_
      refine n_imul E dX1_ranked_57 ?_
      refine lv_iload_n E.1 E.2.1 dX1_ranked_58 rfl (lv_at hl 4 rfl) ?_
      refine n_iadd E dX1_ranked_59 ?_
      refine n_rald E hK hP 1 0 rfl rfl u c (by omega) (by omega) (by omega) dX1_ranked_60 ?_
      refine lv_lstore (lv' := [(6, .long (T u c)), (5, .int (nI u)), (4, .int (nI (ct (fun u => (ch T kc ko kv k) u && bfb T c true u t) u))), (3, .int (nI t)), (0, .ref (ad 0)), (1, .int (nI c)), (2, .int (nI i))]) E.1 E.2.1 dX1_ranked_61 hl (by decide) rfl (fun ls hl => ?_)
      refine lv_aload_n E.1 E.2.1 dX1_ranked_63 rfl (lv_at hl 4 rfl) ?_
      refine n_get E inR hK hP 0 rfl rfl 2 (by decide) flR_7 rfl rfl dX1_ranked_64 ?_
      refine lv_iconst (v := nI 4) E.1 E.2.1 dX1_ranked_67 rfl ?_
      refine lv_iload_n E.1 E.2.1 dX1_ranked_68 rfl (lv_at hl 3 rfl) ?_
      refine n_imul E dX1_ranked_69 ?_
      refine lv_iload_n E.1 E.2.1 dX1_ranked_70 rfl (lv_at hl 5 rfl) ?_
      refine n_iadd E dX1_ranked_71 ?_
      refine n_rald E hK hP 1 0 rfl rfl t c (by omega) (by omega) (by omega) dX1_ranked_72 ?_
      refine lv_lstore (lv' := [(8, .long (T t c)), (6, .long (T u c)), (5, .int (nI u)), (4, .int (nI (ct (fun u => (ch T kc ko kv k) u && bfb T c true u t) u))), (3, .int (nI t)), (0, .ref (ad 0)), (1, .int (nI c)), (2, .int (nI i))]) E.1 E.2.1 dX1_ranked_73 hl (by decide) rfl (fun ls hl => ?_)
      refine lv_iload E.1 E.2.1 dX1_ranked_75 (lv_at hl 3 rfl) ?_
      refine lv_aload_n E.1 E.2.1 dX1_ranked_77 rfl (lv_at hl 5 rfl) ?_
      refine lv_iload E.1 E.2.1 dX1_ranked_78 (lv_at hl 2 rfl) ?_
      refine cV_i E (As := [.int (nI u)]) (rest := [.int (nI (ct (fun u => (ch T kc ko kv k) u && bfb T c true u t) u))]) (cR_isChosen l D ad ca T n kc ko kv k 0 u hIK (by omega)) kR_41 hK hP 0 rfl rfl rfl rfl ⟨Nat.le_of_ble_eq_true rfl, Nat.le_of_ble_eq_true rfl⟩ rfl hl.1 rfl (Nat.le_of_ble_eq_true rfl) dX1_ranked_80 ⟨Nat.zero_le _, Nat.zero_le _⟩ ?_
      refine b_if_eq (tgt := 112) E dX1_ranked_83 rfl (fun h83 => ?_) (fun h83 => ?_)
      · skip
        refine lv_iconst (v := nI 0) E.1 E.2.1 dX1_ranked_112 rfl ?_
        refine n_iadd E dX1_ranked_113 ?_
        refine lv_istore (lv' := [(4, .int (nI (ct (fun u => (ch T kc ko kv k) u && bfb T c true u t) u + 0))), (8, .long (T t c)), (6, .long (T u c)), (5, .int (nI u)), (3, .int (nI t)), (0, .ref (ad 0)), (1, .int (nI c)), (2, .int (nI i))]) E.1 E.2.1 dX1_ranked_114 hl (by decide) rfl (fun ls hl => ?_)
        refine lv_iinc (k := 3) (v := nI (u + 1)) (lv' := [(5, .int (nI (u + 1))), (4, .int (nI (ct (fun u => (ch T kc ko kv k) u && bfb T c true u t) u + 0))), (8, .long (T t c)), (6, .long (T u c)), (3, .int (nI t)), (0, .ref (ad 0)), (1, .int (nI c)), (2, .int (nI i))]) E.1 E.2.1 dX1_ranked_116 hl rfl (inc1 _) (by decide) rfl (fun ls hl => ?_)
        refine lv_goto (tgt := 41) E.1 E.2.1 dX1_ranked_119 rfl ?_
        rw [← ct_f (p := (fun u => (ch T kc ko kv k) u && bfb T c true u t)) (by simp [bfb, bef, h83])] at hl
        exact ih41 (u + 1) _ (by omega) (by omega) (lv_sub hl [0, 1, 4, 5, 6, 7] rfl)
      · skip
        refine lv_lload E.1 E.2.1 dX1_ranked_86 (lv_at hl 1 rfl) ?_
        refine lv_lload E.1 E.2.1 dX1_ranked_88 (lv_at hl 0 rfl) ?_
        refine l_if_gt (tgt := 108) E dX1_ranked_90 dX1_ranked_91 rfl (fun h90 => ?_) (fun h90 => ?_)
        · skip
          refine lv_iconst (v := nI 1) E.1 E.2.1 dX1_ranked_108 rfl ?_
          refine lv_goto (tgt := 113) E.1 E.2.1 dX1_ranked_109 rfl ?_
          refine n_iadd E dX1_ranked_113 ?_
          refine lv_istore (lv' := [(4, .int (nI (ct (fun u => (ch T kc ko kv k) u && bfb T c true u t) u + 1))), (8, .long (T t c)), (6, .long (T u c)), (5, .int (nI u)), (3, .int (nI t)), (0, .ref (ad 0)), (1, .int (nI c)), (2, .int (nI i))]) E.1 E.2.1 dX1_ranked_114 hl (by decide) rfl (fun ls hl => ?_)
          refine lv_iinc (k := 3) (v := nI (u + 1)) (lv' := [(5, .int (nI (u + 1))), (4, .int (nI (ct (fun u => (ch T kc ko kv k) u && bfb T c true u t) u + 1))), (8, .long (T t c)), (6, .long (T u c)), (3, .int (nI t)), (0, .ref (ad 0)), (1, .int (nI c)), (2, .int (nI i))]) E.1 E.2.1 dX1_ranked_116 hl rfl (inc1 _) (by decide) rfl (fun ls hl => ?_)
          refine lv_goto (tgt := 41) E.1 E.2.1 dX1_ranked_119 rfl ?_
          rw [← ct_t (p := (fun u => (ch T kc ko kv k) u && bfb T c true u t)) (by simp [bfb, bef, h83, h90])] at hl
          exact ih41 (u + 1) _ (by omega) (by omega) (lv_sub hl [0, 1, 4, 5, 6, 7] rfl)
        · skip
          refine lv_lload E.1 E.2.1 dX1_ranked_94 (lv_at hl 1 rfl) ?_
          refine lv_lload E.1 E.2.1 dX1_ranked_96 (lv_at hl 0 rfl) ?_
          refine l_if_ne (tgt := 112) E dX1_ranked_98 dX1_ranked_99 rfl (fun h98 => ?_) (fun h98 => ?_)
          · skip
            refine lv_iconst (v := nI 0) E.1 E.2.1 dX1_ranked_112 rfl ?_
            refine n_iadd E dX1_ranked_113 ?_
            refine lv_istore (lv' := [(4, .int (nI (ct (fun u => (ch T kc ko kv k) u && bfb T c true u t) u + 0))), (8, .long (T t c)), (6, .long (T u c)), (5, .int (nI u)), (3, .int (nI t)), (0, .ref (ad 0)), (1, .int (nI c)), (2, .int (nI i))]) E.1 E.2.1 dX1_ranked_114 hl (by decide) rfl (fun ls hl => ?_)
            refine lv_iinc (k := 3) (v := nI (u + 1)) (lv' := [(5, .int (nI (u + 1))), (4, .int (nI (ct (fun u => (ch T kc ko kv k) u && bfb T c true u t) u + 0))), (8, .long (T t c)), (6, .long (T u c)), (3, .int (nI t)), (0, .ref (ad 0)), (1, .int (nI c)), (2, .int (nI i))]) E.1 E.2.1 dX1_ranked_116 hl rfl (inc1 _) (by decide) rfl (fun ls hl => ?_)
            refine lv_goto (tgt := 41) E.1 E.2.1 dX1_ranked_119 rfl ?_
            rw [← ct_f (p := (fun u => (ch T kc ko kv k) u && bfb T c true u t)) (by simp [bfb, bef, h83, h90, h98])] at hl
            exact ih41 (u + 1) _ (by omega) (by omega) (lv_sub hl [0, 1, 4, 5, 6, 7] rfl)
          · skip
            refine lv_iload E.1 E.2.1 dX1_ranked_102 (lv_at hl 2 rfl) ?_
            refine lv_iload_n E.1 E.2.1 dX1_ranked_104 rfl (lv_at hl 4 rfl) ?_
            refine n_icmp_ge (tgt := 112) E dX1_ranked_105 rfl (by omega) (by omega) (fun h105 => ?_) (fun h105 => ?_)
            · skip
              refine lv_iconst (v := nI 0) E.1 E.2.1 dX1_ranked_112 rfl ?_
              refine n_iadd E dX1_ranked_113 ?_
              refine lv_istore (lv' := [(4, .int (nI (ct (fun u => (ch T kc ko kv k) u && bfb T c true u t) u + 0))), (8, .long (T t c)), (6, .long (T u c)), (5, .int (nI u)), (3, .int (nI t)), (0, .ref (ad 0)), (1, .int (nI c)), (2, .int (nI i))]) E.1 E.2.1 dX1_ranked_114 hl (by decide) rfl (fun ls hl => ?_)
              refine lv_iinc (k := 3) (v := nI (u + 1)) (lv' := [(5, .int (nI (u + 1))), (4, .int (nI (ct (fun u => (ch T kc ko kv k) u && bfb T c true u t) u + 0))), (8, .long (T t c)), (6, .long (T u c)), (3, .int (nI t)), (0, .ref (ad 0)), (1, .int (nI c)), (2, .int (nI i))]) E.1 E.2.1 dX1_ranked_116 hl rfl (inc1 _) (by decide) rfl (fun ls hl => ?_)
              refine lv_goto (tgt := 41) E.1 E.2.1 dX1_ranked_119 rfl ?_
              rw [← ct_f (p := (fun u => (ch T kc ko kv k) u && bfb T c true u t)) (by simp [bfb, bef, h83, h90, h98, h105, show ¬ u < t by omega])] at hl
              exact ih41 (u + 1) _ (by omega) (by omega) (lv_sub hl [0, 1, 4, 5, 6, 7] rfl)
            · skip
              refine lv_iconst (v := nI 1) E.1 E.2.1 dX1_ranked_108 rfl ?_
              refine lv_goto (tgt := 113) E.1 E.2.1 dX1_ranked_109 rfl ?_
              refine n_iadd E dX1_ranked_113 ?_
              refine lv_istore (lv' := [(4, .int (nI (ct (fun u => (ch T kc ko kv k) u && bfb T c true u t) u + 1))), (8, .long (T t c)), (6, .long (T u c)), (5, .int (nI u)), (3, .int (nI t)), (0, .ref (ad 0)), (1, .int (nI c)), (2, .int (nI i))]) E.1 E.2.1 dX1_ranked_114 hl (by decide) rfl (fun ls hl => ?_)
              refine lv_iinc (k := 3) (v := nI (u + 1)) (lv' := [(5, .int (nI (u + 1))), (4, .int (nI (ct (fun u => (ch T kc ko kv k) u && bfb T c true u t) u + 1))), (8, .long (T t c)), (6, .long (T u c)), (3, .int (nI t)), (0, .ref (ad 0)), (1, .int (nI c)), (2, .int (nI i))]) E.1 E.2.1 dX1_ranked_116 hl rfl (inc1 _) (by decide) rfl (fun ls hl => ?_)
              refine lv_goto (tgt := 41) E.1 E.2.1 dX1_ranked_119 rfl ?_
              rw [← ct_t (p := (fun u => (ch T kc ko kv k) u && bfb T c true u t)) (by simp [bfb, bef, h83, h90, h98, h105])] at hl
              exact ih41 (u + 1) _ (by omega) (by omega) (lv_sub hl [0, 1, 4, 5, 6, 7] rfl)
set_option maxHeartbeats 4000000 in
set_option maxRecDepth 100000 in
theorem cR_ranked2 (l : Launch) (D : va_G) (ad : Nat → Nat) (ca : Nat → ClassId) (T : Nat → Nat → Int64) (n : Nat) (kc ko : Nat → Nat) (kv : Nat → Int64) (k cd : Nat) (c : Nat) (x : Int32) (hN : inj ad 5) (hIK : iK kc ko k) (hn128 : n ≤ 128) (hc : c < 4) (hx : ∀ t, t < n → (ch T kc ko kv k) t = true → nI (ct (fun u => (ch T kc ko kv k) u && bfb T c true u t) n) ≠ x) : Met l yX1_ranked (wA yX1_ranked cX1_ranked 10 (some .int)) (rN 2) (va_Pc [.ref (ad 0), .int (nI c), .int x] (pW D c2 (tR ca) (wR ad ca T n kc ko kv k cd))) (qI (fun z (_ : Unit) => True) D c2 (fun _ => wR ad ca T n kc ko kv k 2) (fA ad 5)) 0 0 (fA ad 5) := by
  refine met_of RX1 rfl (by decide) (Nat.le_of_ble_eq_true rfl) (fun p e s m below meth cd0 ls E hr hlk _ hB hl => ?_)
  obtain ⟨hP, hK⟩ := hB
  have hl : lv_has ls 10 [(0, .ref (ad 0)), (1, .int (nI c)), (2, .int x)] := hl
  have hS : va_S (fA ad 5) s.heap s.heap [] := va_S.rf
  refine lv_aload_n E.1 E.2.1 dX1_ranked_0 rfl (lv_at hl 0 rfl) ?_
  refine lv_iload_n E.1 E.2.1 dX1_ranked_1 rfl (lv_at hl 1 rfl) ?_
  refine cS_i E (As := [.int (nI c)]) (rest := [.ref (ad 0)]) (cR_isColumn l (nI c)) kR_30 rfl rfl ⟨Nat.le_of_ble_eq_true rfl, Nat.le_of_ble_eq_true rfl⟩ rfl hl.1 rfl (Nat.le_of_ble_eq_true rfl) dX1_ranked_2 ⟨Nat.zero_le _, Nat.zero_le _⟩ ?_
  refine tpi (y := bI true) (congrArg bI (isC_n (by omega))) ?_
  refine b_if_ne (tgt := 12) E dX1_ranked_5 rfl (fun _ => ?_) (fun h => Bool.noConfusion h)
  refine lv_iconst (v := nI 0) E.1 E.2.1 dX1_ranked_12 rfl ?_
  refine n_put E inR tyR1 tyR1_ok nmR1 hK hP (dW hN rfl) hS 0 rfl rfl 0 (by decide) flR_23 rfl rfl (tyR1_ok 0 (by decide)) (Nat.le_of_ble_eq_true rfl) dX1_ranked_13 (fun H locs hP hS => ?_)
  have hP : va_P D c2 (wR ad ca T n kc ko kv k 0) H := hP
  refine lv_aload_n E.1 E.2.1 dX1_ranked_16 rfl (lv_at hl 0 rfl) ?_
  refine n_get E inR hK hP 0 rfl rfl 0 (by decide) flR_23 rfl rfl dX1_ranked_17 ?_
  refine n_if_le (tgt := 25) E dX1_ranked_20 rfl (by decide) (fun _ => ?_) (fun h => absurd h (by decide))
  refine lv_iconst (v := nI 0) E.1 E.2.1 dX1_ranked_25 rfl ?_
  refine lv_istore_n (lv' := [(3, .int (nI 0)), (0, .ref (ad 0)), (1, .int (nI c)), (2, .int x)]) E.1 E.2.1 dX1_ranked_26 rfl hl (by decide) rfl (fun ls hl => ?_)
  refine w_lp1 (fun (t : Nat) => t ≤ n) (fun (t : Nat) => n - t) (fun (t : Nat) => [(3, .int (nI t)), (0, .ref (ad 0)), (1, .int (nI c)), (2, .int x)]) 0 (Nat.zero_le _) (lv_sub hl [0, 1, 2, 3] rfl) (fun t ls hI hl ih27 => ?_)
  have hl : lv_has ls 10 [(3, .int (nI t)), (0, .ref (ad 0)), (1, .int (nI c)), (2, .int x)] := hl
  have hI27 := hI
  refine lv_iload_n E.1 E.2.1 dX1_ranked_27 rfl (lv_at hl 0 rfl) ?_
  refine lv_aload_n E.1 E.2.1 dX1_ranked_28 rfl (lv_at hl 1 rfl) ?_
  refine n_get E inR hK hP 0 rfl rfl 1 (by decide) flR_27 rfl rfl dX1_ranked_29 ?_
  refine n_icmp_ge (tgt := 144) E dX1_ranked_32 rfl (by omega) (by omega) (fun h32 => ?_) (fun h32 => ?_)
  · skip
    refine lv_aload_n E.1 E.2.1 dX1_ranked_144 rfl (lv_at hl 1 rfl) ?_
    refine lv_iconst (v := nI 2) E.1 E.2.1 dX1_ranked_145 rfl ?_
    refine n_put E inR tyR1 tyR1_ok nmR1 hK hP (dW hN rfl) hS 0 rfl rfl 0 (by decide) flR_23 rfl rfl (tyR1_ok 0 (by decide)) (Nat.le_of_ble_eq_true rfl) dX1_ranked_146 (fun H locs hP hS => ?_)
    have hP : va_P D c2 (wR ad ca T n kc ko kv k 2) H := hP
    refine lv_iconst (v := nI 0) E.1 E.2.1 dX1_ranked_149 rfl ?_
    exact e_wi E hr hlk hS () trivial hP dX1_ranked_150
  · skip
    refine lv_iconst (v := nI 0) E.1 E.2.1 dX1_ranked_35 rfl ?_
    refine lv_istore (lv' := [(4, .int (nI 0)), (3, .int (nI t)), (0, .ref (ad 0)), (1, .int (nI c)), (2, .int x)]) E.1 E.2.1 dX1_ranked_36 hl (by decide) rfl (fun ls hl => ?_)
    refine lv_iconst (v := nI 0) E.1 E.2.1 dX1_ranked_38 rfl ?_
    refine lv_istore (lv' := [(5, .int (nI 0)), (4, .int (nI 0)), (3, .int (nI t)), (0, .ref (ad 0)), (1, .int (nI c)), (2, .int x)]) E.1 E.2.1 dX1_ranked_39 hl (by decide) rfl (fun ls hl => ?_)
    refine w_lp1 (fun (u : Nat) => u ≤ n) (fun (u : Nat) => n - u) (fun (u : Nat) => [(5, .int (nI u)), (4, .int (nI (ct (fun u => (ch T kc ko kv k) u && bfb T c true u t) u))), (3, .int (nI t)), (0, .ref (ad 0)), (1, .int (nI c)), (2, .int x)]) 0 (Nat.zero_le _) (lv_sub hl [0, 1, 2, 3, 4, 5] rfl) (fun u ls hI hl ih41 => ?_)
    have hl : lv_has ls 10 [(5, .int (nI u)), (4, .int (nI (ct (fun u => (ch T kc ko kv k) u && bfb T c true u t) u))), (3, .int (nI t)), (0, .ref (ad 0)), (1, .int (nI c)), (2, .int x)] := hl
    refine lv_iload E.1 E.2.1 dX1_ranked_41 (lv_at hl 0 rfl) ?_
    refine lv_aload_n E.1 E.2.1 dX1_ranked_43 rfl (lv_at hl 3 rfl) ?_
    refine n_get E inR hK hP 0 rfl rfl 1 (by decide) flR_27 rfl rfl dX1_ranked_44 ?_
    refine n_icmp_ge (tgt := 122) E dX1_ranked_47 rfl (by omega) (by omega) (fun h47 => ?_) (fun h47 => ?_)
    · skip
      have e9 : u = n := by omega
      rw [e9] at hl
      have hctn := ct_le (fun u => (ch T kc ko kv k) u && bfb T c true u t) n
      refine lv_aload_n E.1 E.2.1 dX1_ranked_122 rfl (lv_at hl 3 rfl) ?_
      refine lv_iload_n E.1 E.2.1 dX1_ranked_123 rfl (lv_at hl 2 rfl) ?_
      refine cV_i E (As := [.int (nI t)]) (rest := []) (cR_isChosen l D ad ca T n kc ko kv k 0 t hIK (by omega)) kR_41 hK hP 0 rfl rfl rfl rfl ⟨Nat.le_of_ble_eq_true rfl, Nat.le_of_ble_eq_true rfl⟩ rfl hl.1 rfl (Nat.le_of_ble_eq_true rfl) dX1_ranked_124 ⟨Nat.zero_le _, Nat.zero_le _⟩ ?_
      refine b_if_eq (tgt := 138) E dX1_ranked_127 rfl (fun h127 => ?_) (fun h127 => ?_)
      · skip
        refine lv_iinc (k := 2) (v := nI (t + 1)) (lv' := [(3, .int (nI (t + 1))), (5, .int (nI n)), (4, .int (nI (ct (fun u => (ch T kc ko kv k) u && bfb T c true u t) n))), (0, .ref (ad 0)), (1, .int (nI c)), (2, .int x)]) E.1 E.2.1 dX1_ranked_138 hl rfl (inc1 _) (by decide) rfl (fun ls hl => ?_)
        refine lv_goto (tgt := 27) E.1 E.2.1 dX1_ranked_141 rfl ?_
        exact ih27 (t + 1) _ (by omega) (by omega) (lv_sub hl [0, 3, 4, 5] rfl)
      · skip
        refine lv_iload E.1 E.2.1 dX1_ranked_130 (lv_at hl 1 rfl) ?_
        refine lv_iload_n E.1 E.2.1 dX1_ranked_132 rfl (lv_at hl 5 rfl) ?_
        refine lv_icmp_ne (tgt := 138) E.1 E.2.1 dX1_ranked_133 rfl (fun h133 => ?_) (fun h133 => ?_)
        · skip
          refine lv_iinc (k := 2) (v := nI (t + 1)) (lv' := [(3, .int (nI (t + 1))), (5, .int (nI n)), (4, .int (nI (ct (fun u => (ch T kc ko kv k) u && bfb T c true u t) n))), (0, .ref (ad 0)), (1, .int (nI c)), (2, .int x)]) E.1 E.2.1 dX1_ranked_138 hl rfl (inc1 _) (by decide) rfl (fun ls hl => ?_)
          refine lv_goto (tgt := 27) E.1 E.2.1 dX1_ranked_141 rfl ?_
          exact ih27 (t + 1) _ (by omega) (by omega) (lv_sub hl [0, 3, 4, 5] rfl)
        · skip
          exact (hx t (by omega) h127 h133).elim
    · skip
      refine lv_aload_n E.1 E.2.1 dX1_ranked_50 rfl (lv_at hl 3 rfl) ?_
      refine n_get E inR hK hP 0 rfl rfl 2 (by decide) flR_7 rfl rfl dX1_ranked_51 ?_
      refine lv_iconst (v := nI 4) E.1 E.2.1 dX1_ranked_54 rfl ?_
      refine lv_iload E.1 E.2.1 dX1_ranked_55 (lv_at hl 0 rfl) ?_
      refine n_imul E dX1_ranked_57 ?_
      refine lv_iload_n E.1 E.2.1 dX1_ranked_58 rfl (lv_at hl 4 rfl) ?_
      refine n_iadd E dX1_ranked_59 ?_
      refine n_rald E hK hP 1 0 rfl rfl u c (by omega) (by omega) (by omega) dX1_ranked_60 ?_
      refine lv_lstore (lv' := [(6, .long (T u c)), (5, .int (nI u)), (4, .int (nI (ct (fun u => (ch T kc ko kv k) u && bfb T c true u t) u))), (3, .int (nI t)), (0, .ref (ad 0)), (1, .int (nI c)), (2, .int x)]) E.1 E.2.1 dX1_ranked_61 hl (by decide) rfl (fun ls hl => ?_)
      refine lv_aload_n E.1 E.2.1 dX1_ranked_63 rfl (lv_at hl 4 rfl) ?_
      refine n_get E inR hK hP 0 rfl rfl 2 (by decide) flR_7 rfl rfl dX1_ranked_64 ?_
      refine lv_iconst (v := nI 4) E.1 E.2.1 dX1_ranked_67 rfl ?_
      refine lv_iload_n E.1 E.2.1 dX1_ranked_68 rfl (lv_at hl 3 rfl) ?_
      refine n_imul E dX1_ranked_69 ?_
      refine lv_iload_n E.1 E.2.1 dX1_ranked_70 rfl (lv_at hl 5 rfl) ?_
      refine n_iadd E dX1_ranked_71 ?_
      refine n_rald E hK hP 1 0 rfl rfl t c (by omega) (by omega) (by omega) dX1_ranked_72 ?_
      refine lv_lstore (lv' := [(8, .long (T t c)), (6, .long (T u c)), (5, .int (nI u)), (4, .int (nI (ct (fun u => (ch T kc ko kv k) u && bfb T c true u t) u))), (3, .int (nI t)), (0, .ref (ad 0)), (1, .int (nI c)), (2, .int x)]) E.1 E.2.1 dX1_ranked_73 hl (by decide) rfl (fun ls hl => ?_)
      refine lv_iload E.1 E.2.1 dX1_ranked_75 (lv_at hl 3 rfl) ?_
      refine lv_aload_n E.1 E.2.1 dX1_ranked_77 rfl (lv_at hl 5 rfl) ?_
      refine lv_iload E.1 E.2.1 dX1_ranked_78 (lv_at hl 2 rfl) ?_
      refine cV_i E (As := [.int (nI u)]) (rest := [.int (nI (ct (fun u => (ch T kc ko kv k) u && bfb T c true u t) u))]) (cR_isChosen l D ad ca T n kc ko kv k 0 u hIK (by omega)) kR_41 hK hP 0 rfl rfl rfl rfl ⟨Nat.le_of_ble_eq_true rfl, Nat.le_of_ble_eq_true rfl⟩ rfl hl.1 rfl (Nat.le_of_ble_eq_true rfl) dX1_ranked_80 ⟨Nat.zero_le _, Nat.zero_le _⟩ ?_
      refine b_if_eq (tgt := 112) E dX1_ranked_83 rfl (fun h83 => ?_) (fun h83 => ?_)
      · skip
        refine lv_iconst (v := nI 0) E.1 E.2.1 dX1_ranked_112 rfl ?_
        refine n_iadd E dX1_ranked_113 ?_
        refine lv_istore (lv' := [(4, .int (nI (ct (fun u => (ch T kc ko kv k) u && bfb T c true u t) u + 0))), (8, .long (T t c)), (6, .long (T u c)), (5, .int (nI u)), (3, .int (nI t)), (0, .ref (ad 0)), (1, .int (nI c)), (2, .int x)]) E.1 E.2.1 dX1_ranked_114 hl (by decide) rfl (fun ls hl => ?_)
        refine lv_iinc (k := 3) (v := nI (u + 1)) (lv' := [(5, .int (nI (u + 1))), (4, .int (nI (ct (fun u => (ch T kc ko kv k) u && bfb T c true u t) u + 0))), (8, .long (T t c)), (6, .long (T u c)), (3, .int (nI t)), (0, .ref (ad 0)), (1, .int (nI c)), (2, .int x)]) E.1 E.2.1 dX1_ranked_116 hl rfl (inc1 _) (by decide) rfl (fun ls hl => ?_)
        refine lv_goto (tgt := 41) E.1 E.2.1 dX1_ranked_119 rfl ?_
        rw [← ct_f (p := (fun u => (ch T kc ko kv k) u && bfb T c true u t)) (by simp [bfb, bef, h83])] at hl
        exact ih41 (u + 1) _ (by omega) (by omega) (lv_sub hl [0, 1, 4, 5, 6, 7] rfl)
      · skip
        refine lv_lload E.1 E.2.1 dX1_ranked_86 (lv_at hl 1 rfl) ?_
        refine lv_lload E.1 E.2.1 dX1_ranked_88 (lv_at hl 0 rfl) ?_
        refine l_if_gt (tgt := 108) E dX1_ranked_90 dX1_ranked_91 rfl (fun h90 => ?_) (fun h90 => ?_)
        · skip
          refine lv_iconst (v := nI 1) E.1 E.2.1 dX1_ranked_108 rfl ?_
          refine lv_goto (tgt := 113) E.1 E.2.1 dX1_ranked_109 rfl ?_
          refine n_iadd E dX1_ranked_113 ?_
          refine lv_istore (lv' := [(4, .int (nI (ct (fun u => (ch T kc ko kv k) u && bfb T c true u t) u + 1))), (8, .long (T t c)), (6, .long (T u c)), (5, .int (nI u)), (3, .int (nI t)), (0, .ref (ad 0)), (1, .int (nI c)), (2, .int x)]) E.1 E.2.1 dX1_ranked_114 hl (by decide) rfl (fun ls hl => ?_)
          refine lv_iinc (k := 3) (v := nI (u + 1)) (lv' := [(5, .int (nI (u + 1))), (4, .int (nI (ct (fun u => (ch T kc ko kv k) u && bfb T c true u t) u + 1))), (8, .long (T t c)), (6, .long (T u c)), (3, .int (nI t)), (0, .ref (ad 0)), (1, .int (nI c)), (2, .int x)]) E.1 E.2.1 dX1_ranked_116 hl rfl (inc1 _) (by decide) rfl (fun ls hl => ?_)
          refine lv_goto (tgt := 41) E.1 E.2.1 dX1_ranked_119 rfl ?_
          rw [← ct_t (p := (fun u => (ch T kc ko kv k) u && bfb T c true u t)) (by simp [bfb, bef, h83, h90])] at hl
          exact ih41 (u + 1) _ (by omega) (by omega) (lv_sub hl [0, 1, 4, 5, 6, 7] rfl)
        · skip
          refine lv_lload E.1 E.2.1 dX1_ranked_94 (lv_at hl 1 rfl) ?_
          refine lv_lload E.1 E.2.1 dX1_ranked_96 (lv_at hl 0 rfl) ?_
          refine l_if_ne (tgt := 112) E dX1_ranked_98 dX1_ranked_99 rfl (fun h98 => ?_) (fun h98 => ?_)
          · skip
            refine lv_iconst (v := nI 0) E.1 E.2.1 dX1_ranked_112 rfl ?_
            refine n_iadd E dX1_ranked_113 ?_
            refine lv_istore (lv' := [(4, .int (nI (ct (fun u => (ch T kc ko kv k) u && bfb T c true u t) u + 0))), (8, .long (T t c)), (6, .long (T u c)), (5, .int (nI u)), (3, .int (nI t)), (0, .ref (ad 0)), (1, .int (nI c)), (2, .int x)]) E.1 E.2.1 dX1_ranked_114 hl (by decide) rfl (fun ls hl => ?_)
            refine lv_iinc (k := 3) (v := nI (u + 1)) (lv' := [(5, .int (nI (u + 1))), (4, .int (nI (ct (fun u => (ch T kc ko kv k) u && bfb T c true u t) u + 0))), (8, .long (T t c)), (6, .long (T u c)), (3, .int (nI t)), (0, .ref (ad 0)), (1, .int (nI c)), (2, .int x)]) E.1 E.2.1 dX1_ranked_116 hl rfl (inc1 _) (by decide) rfl (fun ls hl => ?_)
            refine lv_goto (tgt := 41) E.1 E.2.1 dX1_ranked_119 rfl ?_
            rw [← ct_f (p := (fun u => (ch T kc ko kv k) u && bfb T c true u t)) (by simp [bfb, bef, h83, h90, h98])] at hl
            exact ih41 (u + 1) _ (by omega) (by omega) (lv_sub hl [0, 1, 4, 5, 6, 7] rfl)
          · skip
            refine lv_iload E.1 E.2.1 dX1_ranked_102 (lv_at hl 2 rfl) ?_
            refine lv_iload_n E.1 E.2.1 dX1_ranked_104 rfl (lv_at hl 4 rfl) ?_
            refine n_icmp_ge (tgt := 112) E dX1_ranked_105 rfl (by omega) (by omega) (fun h105 => ?_) (fun h105 => ?_)
            · skip
              refine lv_iconst (v := nI 0) E.1 E.2.1 dX1_ranked_112 rfl ?_
              refine n_iadd E dX1_ranked_113 ?_
              refine lv_istore (lv' := [(4, .int (nI (ct (fun u => (ch T kc ko kv k) u && bfb T c true u t) u + 0))), (8, .long (T t c)), (6, .long (T u c)), (5, .int (nI u)), (3, .int (nI t)), (0, .ref (ad 0)), (1, .int (nI c)), (2, .int x)]) E.1 E.2.1 dX1_ranked_114 hl (by decide) rfl (fun ls hl => ?_)
              refine lv_iinc (k := 3) (v := nI (u + 1)) (lv' := [(5, .int (nI (u + 1))), (4, .int (nI (ct (fun u => (ch T kc ko kv k) u && bfb T c true u t) u + 0))), (8, .long (T t c)), (6, .long (T u c)), (3, .int (nI t)), (0, .ref (ad 0)), (1, .int (nI c)), (2, .int x)]) E.1 E.2.1 dX1_ranked_116 hl rfl (inc1 _) (by decide) rfl (fun ls hl => ?_)
              refine lv_goto (tgt := 41) E.1 E.2.1 dX1_ranked_119 rfl ?_
              rw [← ct_f (p := (fun u => (ch T kc ko kv k) u && bfb T c true u t)) (by simp [bfb, bef, h83, h90, h98, h105, show ¬ u < t by omega])] at hl
              exact ih41 (u + 1) _ (by omega) (by omega) (lv_sub hl [0, 1, 4, 5, 6, 7] rfl)
            · skip
              refine lv_iconst (v := nI 1) E.1 E.2.1 dX1_ranked_108 rfl ?_
              refine lv_goto (tgt := 113) E.1 E.2.1 dX1_ranked_109 rfl ?_
              refine n_iadd E dX1_ranked_113 ?_
              refine lv_istore (lv' := [(4, .int (nI (ct (fun u => (ch T kc ko kv k) u && bfb T c true u t) u + 1))), (8, .long (T t c)), (6, .long (T u c)), (5, .int (nI u)), (3, .int (nI t)), (0, .ref (ad 0)), (1, .int (nI c)), (2, .int x)]) E.1 E.2.1 dX1_ranked_114 hl (by decide) rfl (fun ls hl => ?_)
              refine lv_iinc (k := 3) (v := nI (u + 1)) (lv' := [(5, .int (nI (u + 1))), (4, .int (nI (ct (fun u => (ch T kc ko kv k) u && bfb T c true u t) u + 1))), (8, .long (T t c)), (6, .long (T u c)), (3, .int (nI t)), (0, .ref (ad 0)), (1, .int (nI c)), (2, .int x)]) E.1 E.2.1 dX1_ranked_116 hl rfl (inc1 _) (by decide) rfl (fun ls hl => ?_)
              refine lv_goto (tgt := 41) E.1 E.2.1 dX1_ranked_119 rfl ?_
              rw [← ct_t (p := (fun u => (ch T kc ko kv k) u && bfb T c true u t)) (by simp [bfb, bef, h83, h90, h98, h105])] at hl
              exact ih41 (u + 1) _ (by omega) (by omega) (lv_sub hl [0, 1, 4, 5, 6, 7] rfl)
set_option maxHeartbeats 4000000 in
set_option maxRecDepth 100000 in
theorem cR_ranked1 (l : Launch) (D : va_G) (ad : Nat → Nat) (ca : Nat → ClassId) (T : Nat → Nat → Int64) (n : Nat) (kc ko : Nat → Nat) (kv : Nat → Int64) (k cd : Nat) (x y : Int32) (hN : inj ad 5) (hx : isC x = false) : Met l yX1_ranked (wA yX1_ranked cX1_ranked 10 (some .int)) (rN 2) (va_Pc [.ref (ad 0), .int x, .int y] (pW D c2 (tR ca) (wR ad ca T n kc ko kv k cd))) (qI (fun z (_ : Unit) => True) D c2 (fun _ => wR ad ca T n kc ko kv k 1) (fA ad 5)) 0 0 (fA ad 5) := by
  refine met_of RX1 rfl (by decide) (Nat.le_of_ble_eq_true rfl) (fun p e s m below meth cd0 ls E hr hlk _ hB hl => ?_)
  obtain ⟨hP, hK⟩ := hB
  have hl : lv_has ls 10 [(0, .ref (ad 0)), (1, .int x), (2, .int y)] := hl
  have hS : va_S (fA ad 5) s.heap s.heap [] := va_S.rf
  refine lv_aload_n E.1 E.2.1 dX1_ranked_0 rfl (lv_at hl 0 rfl) ?_
  refine lv_iload_n E.1 E.2.1 dX1_ranked_1 rfl (lv_at hl 1 rfl) ?_
  refine cS_i E (As := [.int x]) (rest := [.ref (ad 0)]) (cR_isColumn l x) kR_30 rfl rfl ⟨Nat.le_of_ble_eq_true rfl, Nat.le_of_ble_eq_true rfl⟩ rfl hl.1 rfl (Nat.le_of_ble_eq_true rfl) dX1_ranked_2 ⟨Nat.zero_le _, Nat.zero_le _⟩ ?_
  refine tpi (y := bI false) (congrArg bI hx) ?_
  refine b_if_ne (tgt := 12) E dX1_ranked_5 rfl (fun h => Bool.noConfusion h) (fun _ => ?_)
  refine lv_iconst (v := nI 1) E.1 E.2.1 dX1_ranked_8 rfl ?_
  refine lv_goto (tgt := 13) E.1 E.2.1 dX1_ranked_9 rfl ?_
  refine n_put E inR tyR1 tyR1_ok nmR1 hK hP (dW hN rfl) hS 0 rfl rfl 0 (by decide) flR_23 rfl rfl (tyR1_ok 0 (by decide)) (Nat.le_of_ble_eq_true rfl) dX1_ranked_13 (fun H locs hP hS => ?_)
  have hP : va_P D c2 (wR ad ca T n kc ko kv k 1) H := hP
  refine lv_aload_n E.1 E.2.1 dX1_ranked_16 rfl (lv_at hl 0 rfl) ?_
  refine n_get E inR hK hP 0 rfl rfl 0 (by decide) flR_23 rfl rfl dX1_ranked_17 ?_
  refine n_if_le (tgt := 25) E dX1_ranked_20 rfl (by decide) (fun h => absurd h (by decide)) (fun _ => ?_)
  refine lv_iconst (v := nI 0) E.1 E.2.1 dX1_ranked_23 rfl ?_
  exact e_wi E hr hlk hS () trivial hP dX1_ranked_24
set_option maxHeartbeats 4000000 in
set_option maxRecDepth 100000 in
theorem cR_isFirst (l : Launch) (D : va_G) (ad : Nat → Nat) (ca : Nat → ClassId) (T : Nat → Nat → Int64) (n : Nat) (kc ko : Nat → Nat) (kv : Nat → Int64) (k cd : Nat) (c r : Nat) (hIK : iK kc ko k) (hc : c < 4) (hr0 : r < 128) : Met l yX1_isFirst (wA yX1_isFirst cX1_isFirst 5 (some .boolean)) (rN 2) (va_Pc [.ref (ad 0), .int (nI c), .int (nI r)] (pW D c2 (tR ca) (wR ad ca T n kc ko kv k cd))) (vp_Si (fun z => z = bI (isF (ch T kc ko kv k) T c r))) 0 0 (fun _ => False) := by
  refine met_of RX1 rfl (by decide) (Nat.le_of_ble_eq_true rfl) (fun p e s m below meth cd0 ls E hr hlk _ hB hl => ?_)
  obtain ⟨hP, hK⟩ := hB
  have hl : lv_has ls 5 [(0, .ref (ad 0)), (1, .int (nI c)), (2, .int (nI r))] := hl
  refine lv_aload_n E.1 E.2.1 dX1_isFirst_0 rfl (lv_at hl 0 rfl) ?_
  refine lv_iload_n E.1 E.2.1 dX1_isFirst_1 rfl (lv_at hl 2 rfl) ?_
  refine cV_i E (As := [.int (nI r)]) (rest := []) (cR_isChosen l D ad ca T n kc ko kv k cd r hIK (by omega)) kR_41 hK hP 0 rfl rfl rfl rfl ⟨Nat.le_of_ble_eq_true rfl, Nat.le_of_ble_eq_true rfl⟩ rfl hl.1 rfl (Nat.le_of_ble_eq_true rfl) dX1_isFirst_2 ⟨Nat.zero_le _, Nat.zero_le _⟩ ?_
  refine tpi (y := bI ((ch T kc ko kv k) r && al (fun t => !((ch T kc ko kv k) t && decide (T t c = T r c))) 0)) (congrArg bI (Bool.and_true _).symm) ?_
  refine lv_istore_n (lv' := [(3, .int (bI ((ch T kc ko kv k) r && al (fun t => !((ch T kc ko kv k) t && decide (T t c = T r c))) 0))), (0, .ref (ad 0)), (1, .int (nI c)), (2, .int (nI r))]) E.1 E.2.1 dX1_isFirst_5 rfl hl (by decide) rfl (fun ls hl => ?_)
  refine lv_iconst (v := nI 0) E.1 E.2.1 dX1_isFirst_6 rfl ?_
  refine lv_istore (lv' := [(4, .int (nI 0)), (3, .int (bI ((ch T kc ko kv k) r && al (fun t => !((ch T kc ko kv k) t && decide (T t c = T r c))) 0))), (0, .ref (ad 0)), (1, .int (nI c)), (2, .int (nI r))]) E.1 E.2.1 dX1_isFirst_7 hl (by decide) rfl (fun ls hl => ?_)
  refine w_lp1 (fun (j : Nat) => j ≤ r) (fun (j : Nat) => r - j) (fun (j : Nat) => [(4, .int (nI j)), (3, .int (bI ((ch T kc ko kv k) r && al (fun t => !((ch T kc ko kv k) t && decide (T t c = T r c))) j))), (0, .ref (ad 0)), (1, .int (nI c)), (2, .int (nI r))]) 0 (Nat.zero_le _) (lv_sub hl [0, 1, 2, 3, 4] rfl) (fun j ls hI hl ih9 => ?_)
  have hl : lv_has ls 5 [(4, .int (nI j)), (3, .int (bI ((ch T kc ko kv k) r && al (fun t => !((ch T kc ko kv k) t && decide (T t c = T r c))) j))), (0, .ref (ad 0)), (1, .int (nI c)), (2, .int (nI r))] := hl
  refine lv_iload E.1 E.2.1 dX1_isFirst_9 (lv_at hl 0 rfl) ?_
  refine lv_iload_n E.1 E.2.1 dX1_isFirst_11 rfl (lv_at hl 4 rfl) ?_
  refine n_icmp_ge (tgt := 65) E dX1_isFirst_12 rfl (by omega) (by omega) (fun h12 => ?_) (fun h12 => ?_)
  · skip
    refine lv_iload_n E.1 E.2.1 dX1_isFirst_65 rfl (lv_at hl 1 rfl) ?_
    exact e_z E hr hlk (congrArg bI (by rw [isF, show j = r by omega])) dX1_isFirst_66
  · skip
    refine lv_iload_n E.1 E.2.1 dX1_isFirst_15 rfl (lv_at hl 1 rfl) ?_
    refine b_if_eq (tgt := 57) E dX1_isFirst_16 rfl (fun h16 => ?_) (fun h16 => ?_)
    · skip
      refine lv_iconst (v := nI 0) E.1 E.2.1 dX1_isFirst_57 rfl ?_
      refine tpi (y := bI ((ch T kc ko kv k) r && al (fun t => !((ch T kc ko kv k) t && decide (T t c = T r c))) (j + 1))) (congrArg bI (if2 h16 rfl).symm) ?_
      refine lv_istore_n (lv' := [(3, .int (bI ((ch T kc ko kv k) r && al (fun t => !((ch T kc ko kv k) t && decide (T t c = T r c))) (j + 1)))), (4, .int (nI j)), (0, .ref (ad 0)), (1, .int (nI c)), (2, .int (nI r))]) E.1 E.2.1 dX1_isFirst_58 rfl hl (by decide) rfl (fun ls hl => ?_)
      refine lv_iinc (k := 1) (v := nI (j + 1)) (lv' := [(4, .int (nI (j + 1))), (3, .int (bI ((ch T kc ko kv k) r && al (fun t => !((ch T kc ko kv k) t && decide (T t c = T r c))) (j + 1)))), (0, .ref (ad 0)), (1, .int (nI c)), (2, .int (nI r))]) E.1 E.2.1 dX1_isFirst_59 hl rfl (inc1 _) (by decide) rfl (fun ls hl => ?_)
      refine lv_goto (tgt := 9) E.1 E.2.1 dX1_isFirst_62 rfl ?_
      exact ih9 (j + 1) _ (by omega) (by omega) (lv_sub hl [0, 1, 2, 3, 4] rfl)
    · skip
      refine lv_aload_n E.1 E.2.1 dX1_isFirst_19 rfl (lv_at hl 2 rfl) ?_
      refine lv_iload E.1 E.2.1 dX1_isFirst_20 (lv_at hl 0 rfl) ?_
      refine cV_i E (As := [.int (nI j)]) (rest := []) (cR_isChosen l D ad ca T n kc ko kv k cd j hIK (by omega)) kR_41 hK hP 0 rfl rfl rfl rfl ⟨Nat.le_of_ble_eq_true rfl, Nat.le_of_ble_eq_true rfl⟩ rfl hl.1 rfl (Nat.le_of_ble_eq_true rfl) dX1_isFirst_22 ⟨Nat.zero_le _, Nat.zero_le _⟩ ?_
      refine b_if_eq (tgt := 53) E dX1_isFirst_25 rfl (fun h25 => ?_) (fun h25 => ?_)
      · skip
        refine lv_iconst (v := nI 1) E.1 E.2.1 dX1_isFirst_53 rfl ?_
        refine lv_goto (tgt := 58) E.1 E.2.1 dX1_isFirst_54 rfl ?_
        refine tpi (y := bI ((ch T kc ko kv k) r && al (fun t => !((ch T kc ko kv k) t && decide (T t c = T r c))) (j + 1))) (congrArg bI (if2 h16 (show (!(_ && _)) = true by rw [h25]; rfl)).symm) ?_
        refine lv_istore_n (lv' := [(3, .int (bI ((ch T kc ko kv k) r && al (fun t => !((ch T kc ko kv k) t && decide (T t c = T r c))) (j + 1)))), (4, .int (nI j)), (0, .ref (ad 0)), (1, .int (nI c)), (2, .int (nI r))]) E.1 E.2.1 dX1_isFirst_58 rfl hl (by decide) rfl (fun ls hl => ?_)
        refine lv_iinc (k := 1) (v := nI (j + 1)) (lv' := [(4, .int (nI (j + 1))), (3, .int (bI ((ch T kc ko kv k) r && al (fun t => !((ch T kc ko kv k) t && decide (T t c = T r c))) (j + 1)))), (0, .ref (ad 0)), (1, .int (nI c)), (2, .int (nI r))]) E.1 E.2.1 dX1_isFirst_59 hl rfl (inc1 _) (by decide) rfl (fun ls hl => ?_)
        refine lv_goto (tgt := 9) E.1 E.2.1 dX1_isFirst_62 rfl ?_
        exact ih9 (j + 1) _ (by omega) (by omega) (lv_sub hl [0, 1, 2, 3, 4] rfl)
      · skip
        refine lv_aload_n E.1 E.2.1 dX1_isFirst_28 rfl (lv_at hl 2 rfl) ?_
        refine n_get E inR hK hP 0 rfl rfl 2 (by decide) flR_7 rfl rfl dX1_isFirst_29 ?_
        refine lv_iconst (v := nI 4) E.1 E.2.1 dX1_isFirst_32 rfl ?_
        refine lv_iload E.1 E.2.1 dX1_isFirst_33 (lv_at hl 0 rfl) ?_
        refine n_imul E dX1_isFirst_35 ?_
        refine lv_iload_n E.1 E.2.1 dX1_isFirst_36 rfl (lv_at hl 3 rfl) ?_
        refine n_iadd E dX1_isFirst_37 ?_
        refine n_rald E hK hP 1 0 rfl rfl j c (by omega) (by omega) (by omega) dX1_isFirst_38 ?_
        refine lv_aload_n E.1 E.2.1 dX1_isFirst_39 rfl (lv_at hl 2 rfl) ?_
        refine n_get E inR hK hP 0 rfl rfl 2 (by decide) flR_7 rfl rfl dX1_isFirst_40 ?_
        refine lv_iconst (v := nI 4) E.1 E.2.1 dX1_isFirst_43 rfl ?_
        refine lv_iload_n E.1 E.2.1 dX1_isFirst_44 rfl (lv_at hl 4 rfl) ?_
        refine n_imul E dX1_isFirst_45 ?_
        refine lv_iload_n E.1 E.2.1 dX1_isFirst_46 rfl (lv_at hl 3 rfl) ?_
        refine n_iadd E dX1_isFirst_47 ?_
        refine n_rald E hK hP 1 0 rfl rfl r c (by omega) (by omega) (by omega) dX1_isFirst_48 ?_
        refine l_if_eq (tgt := 57) E dX1_isFirst_49 dX1_isFirst_50 rfl (fun h49 => ?_) (fun h49 => ?_)
        · skip
          refine lv_iconst (v := nI 0) E.1 E.2.1 dX1_isFirst_57 rfl ?_
          refine tpi (y := bI ((ch T kc ko kv k) r && al (fun t => !((ch T kc ko kv k) t && decide (T t c = T r c))) (j + 1))) (congrArg bI (if2 h16 (show (!(_ && _)) = false by rw [h25, decide_eq_true h49]; rfl)).symm) ?_
          refine lv_istore_n (lv' := [(3, .int (bI ((ch T kc ko kv k) r && al (fun t => !((ch T kc ko kv k) t && decide (T t c = T r c))) (j + 1)))), (4, .int (nI j)), (0, .ref (ad 0)), (1, .int (nI c)), (2, .int (nI r))]) E.1 E.2.1 dX1_isFirst_58 rfl hl (by decide) rfl (fun ls hl => ?_)
          refine lv_iinc (k := 1) (v := nI (j + 1)) (lv' := [(4, .int (nI (j + 1))), (3, .int (bI ((ch T kc ko kv k) r && al (fun t => !((ch T kc ko kv k) t && decide (T t c = T r c))) (j + 1)))), (0, .ref (ad 0)), (1, .int (nI c)), (2, .int (nI r))]) E.1 E.2.1 dX1_isFirst_59 hl rfl (inc1 _) (by decide) rfl (fun ls hl => ?_)
          refine lv_goto (tgt := 9) E.1 E.2.1 dX1_isFirst_62 rfl ?_
          exact ih9 (j + 1) _ (by omega) (by omega) (lv_sub hl [0, 1, 2, 3, 4] rfl)
        · skip
          refine lv_iconst (v := nI 1) E.1 E.2.1 dX1_isFirst_53 rfl ?_
          refine lv_goto (tgt := 58) E.1 E.2.1 dX1_isFirst_54 rfl ?_
          refine tpi (y := bI ((ch T kc ko kv k) r && al (fun t => !((ch T kc ko kv k) t && decide (T t c = T r c))) (j + 1))) (congrArg bI (if2 h16 (show (!(_ && _)) = true by rw [h25, decide_eq_false h49]; rfl)).symm) ?_
          refine lv_istore_n (lv' := [(3, .int (bI ((ch T kc ko kv k) r && al (fun t => !((ch T kc ko kv k) t && decide (T t c = T r c))) (j + 1)))), (4, .int (nI j)), (0, .ref (ad 0)), (1, .int (nI c)), (2, .int (nI r))]) E.1 E.2.1 dX1_isFirst_58 rfl hl (by decide) rfl (fun ls hl => ?_)
          refine lv_iinc (k := 1) (v := nI (j + 1)) (lv' := [(4, .int (nI (j + 1))), (3, .int (bI ((ch T kc ko kv k) r && al (fun t => !((ch T kc ko kv k) t && decide (T t c = T r c))) (j + 1)))), (0, .ref (ad 0)), (1, .int (nI c)), (2, .int (nI r))]) E.1 E.2.1 dX1_isFirst_59 hl rfl (inc1 _) (by decide) rfl (fun ls hl => ?_)
          refine lv_goto (tgt := 9) E.1 E.2.1 dX1_isFirst_62 rfl ?_
          exact ih9 (j + 1) _ (by omega) (by omega) (lv_sub hl [0, 1, 2, 3, 4] rfl)
set_option maxHeartbeats 4000000 in
set_option maxRecDepth 100000 in
theorem cR_countGroups (l : Launch) (D : va_G) (ad : Nat → Nat) (ca : Nat → ClassId) (T : Nat → Nat → Int64) (n : Nat) (kc ko : Nat → Nat) (kv : Nat → Int64) (k cd : Nat) (c : Nat) (hIK : iK kc ko k) (hn128 : n ≤ 128) (hc : c < 4) : Met l yX1_countGroups (wA yX1_countGroups cX1_countGroups 4 (some .int)) (rN 3) (va_Pc [.ref (ad 0), .int (nI c)] (pW D c2 (tR ca) (wR ad ca T n kc ko kv k cd))) (vp_Si (fun z => z = nI (ct (isF (ch T kc ko kv k) T c) n))) 0 0 (fun _ => False) := by
  refine met_of RX1 rfl (by decide) (Nat.le_of_ble_eq_true rfl) (fun p e s m below meth cd0 ls E hr hlk _ hB hl => ?_)
  obtain ⟨hP, hK⟩ := hB
  have hl : lv_has ls 4 [(0, .ref (ad 0)), (1, .int (nI c))] := hl
  refine lv_iconst (v := nI 0) E.1 E.2.1 dX1_countGroups_0 rfl ?_
  refine lv_istore_n (lv' := [(2, .int (nI 0)), (0, .ref (ad 0)), (1, .int (nI c))]) E.1 E.2.1 dX1_countGroups_1 rfl hl (by decide) rfl (fun ls hl => ?_)
  refine lv_iconst (v := nI 0) E.1 E.2.1 dX1_countGroups_2 rfl ?_
  refine lv_istore_n (lv' := [(3, .int (nI 0)), (2, .int (nI 0)), (0, .ref (ad 0)), (1, .int (nI c))]) E.1 E.2.1 dX1_countGroups_3 rfl hl (by decide) rfl (fun ls hl => ?_)
  refine w_lp1 (fun (r : Nat) => r ≤ n) (fun (r : Nat) => n - r) (fun (r : Nat) => [(3, .int (nI r)), (2, .int (nI (ct (isF (ch T kc ko kv k) T c) r))), (0, .ref (ad 0)), (1, .int (nI c))]) 0 (Nat.zero_le _) (lv_sub hl [0, 1, 2, 3] rfl) (fun r ls hI hl ih4 => ?_)
  have hl : lv_has ls 4 [(3, .int (nI r)), (2, .int (nI (ct (isF (ch T kc ko kv k) T c) r))), (0, .ref (ad 0)), (1, .int (nI c))] := hl
  refine lv_iload_n E.1 E.2.1 dX1_countGroups_4 rfl (lv_at hl 0 rfl) ?_
  refine lv_aload_n E.1 E.2.1 dX1_countGroups_5 rfl (lv_at hl 2 rfl) ?_
  refine n_get E inR hK hP 0 rfl rfl 1 (by decide) flR_27 rfl rfl dX1_countGroups_6 ?_
  refine n_icmp_ge (tgt := 35) E dX1_countGroups_9 rfl (by omega) (by omega) (fun h9 => ?_) (fun h9 => ?_)
  · skip
    refine lv_iload_n E.1 E.2.1 dX1_countGroups_35 rfl (lv_at hl 1 rfl) ?_
    exact e_i E hr hlk (by rw [show n = r by omega]) dX1_countGroups_36
  · skip
    refine lv_iload_n E.1 E.2.1 dX1_countGroups_12 rfl (lv_at hl 1 rfl) ?_
    refine lv_aload_n E.1 E.2.1 dX1_countGroups_13 rfl (lv_at hl 2 rfl) ?_
    refine lv_iload_n E.1 E.2.1 dX1_countGroups_14 rfl (lv_at hl 3 rfl) ?_
    refine lv_iload_n E.1 E.2.1 dX1_countGroups_15 rfl (lv_at hl 0 rfl) ?_
    refine cV_i E (As := [.int (nI c), .int (nI r)]) (rest := [.int (nI (ct (isF (ch T kc ko kv k) T c) r))]) (cR_isFirst l D ad ca T n kc ko kv k cd c r hIK (by omega) (by omega)) kR_79 hK hP 0 rfl rfl rfl rfl ⟨Nat.le_of_ble_eq_true rfl, Nat.le_of_ble_eq_true rfl⟩ rfl hl.1 rfl (Nat.le_of_ble_eq_true rfl) dX1_countGroups_16 ⟨Nat.zero_le _, Nat.zero_le _⟩ ?_
    refine b_if_eq (tgt := 26) E dX1_countGroups_19 rfl (fun h19 => ?_) (fun h19 => ?_)
    · skip
      refine lv_iconst (v := nI 0) E.1 E.2.1 dX1_countGroups_26 rfl ?_
      refine n_iadd E dX1_countGroups_27 ?_
      refine lv_istore_n (lv' := [(2, .int (nI (ct (isF (ch T kc ko kv k) T c) r + 0))), (3, .int (nI r)), (0, .ref (ad 0)), (1, .int (nI c))]) E.1 E.2.1 dX1_countGroups_28 rfl hl (by decide) rfl (fun ls hl => ?_)
      refine lv_iinc (k := 1) (v := nI (r + 1)) (lv' := [(3, .int (nI (r + 1))), (2, .int (nI (ct (isF (ch T kc ko kv k) T c) r + 0))), (0, .ref (ad 0)), (1, .int (nI c))]) E.1 E.2.1 dX1_countGroups_29 hl rfl (inc1 _) (by decide) rfl (fun ls hl => ?_)
      refine lv_goto (tgt := 4) E.1 E.2.1 dX1_countGroups_32 rfl ?_
      rw [← ct_f (p := (isF (ch T kc ko kv k) T c)) h19] at hl
      exact ih4 (r + 1) _ (by omega) (by omega) (lv_sub hl [0, 1, 2, 3] rfl)
    · skip
      refine lv_iconst (v := nI 1) E.1 E.2.1 dX1_countGroups_22 rfl ?_
      refine lv_goto (tgt := 27) E.1 E.2.1 dX1_countGroups_23 rfl ?_
      refine n_iadd E dX1_countGroups_27 ?_
      refine lv_istore_n (lv' := [(2, .int (nI (ct (isF (ch T kc ko kv k) T c) r + 1))), (3, .int (nI r)), (0, .ref (ad 0)), (1, .int (nI c))]) E.1 E.2.1 dX1_countGroups_28 rfl hl (by decide) rfl (fun ls hl => ?_)
      refine lv_iinc (k := 1) (v := nI (r + 1)) (lv' := [(3, .int (nI (r + 1))), (2, .int (nI (ct (isF (ch T kc ko kv k) T c) r + 1))), (0, .ref (ad 0)), (1, .int (nI c))]) E.1 E.2.1 dX1_countGroups_29 hl rfl (inc1 _) (by decide) rfl (fun ls hl => ?_)
      refine lv_goto (tgt := 4) E.1 E.2.1 dX1_countGroups_32 rfl ?_
      rw [← ct_t (p := (isF (ch T kc ko kv k) T c)) h19] at hl
      exact ih4 (r + 1) _ (by omega) (by omega) (lv_sub hl [0, 1, 2, 3] rfl)
set_option maxHeartbeats 4000000 in
set_option maxRecDepth 100000 in
theorem cR_groups (l : Launch) (D : va_G) (ad : Nat → Nat) (ca : Nat → ClassId) (T : Nat → Nat → Int64) (n : Nat) (kc ko : Nat → Nat) (kv : Nat → Int64) (k cd : Nat) (c : Nat) (hN : inj ad 5) (hIK : iK kc ko k) (hn128 : n ≤ 128) (hc : c < 4) : Met l yX1_groups (wA yX1_groups cX1_groups 2 (some .int)) (rN 4) (va_Pc [.ref (ad 0), .int (nI c)] (pW D c2 (tR ca) (wR ad ca T n kc ko kv k cd))) (qI (fun z (_ : Unit) => z = nI (ct (isF (ch T kc ko kv k) T c) n)) D c2 (fun _ => wR ad ca T n kc ko kv k 0) (fA ad 5)) 0 0 (fA ad 5) := by
  refine met_of RX1 rfl (by decide) (Nat.le_of_ble_eq_true rfl) (fun p e s m below meth cd0 ls E hr hlk _ hB hl => ?_)
  obtain ⟨hP, hK⟩ := hB
  have hl : lv_has ls 2 [(0, .ref (ad 0)), (1, .int (nI c))] := hl
  have hS : va_S (fA ad 5) s.heap s.heap [] := va_S.rf
  refine lv_aload_n E.1 E.2.1 dX1_groups_0 rfl (lv_at hl 0 rfl) ?_
  refine lv_iload_n E.1 E.2.1 dX1_groups_1 rfl (lv_at hl 1 rfl) ?_
  refine cS_i E (As := [.int (nI c)]) (rest := [.ref (ad 0)]) (cR_isColumn l (nI c)) kR_30 rfl rfl ⟨Nat.le_of_ble_eq_true rfl, Nat.le_of_ble_eq_true rfl⟩ rfl hl.1 rfl (Nat.le_of_ble_eq_true rfl) dX1_groups_2 ⟨Nat.zero_le _, Nat.zero_le _⟩ ?_
  refine tpi (y := bI true) (congrArg bI (isC_n (by omega))) ?_
  refine b_if_eq (tgt := 12) E dX1_groups_5 rfl (fun h => Bool.noConfusion h) (fun _ => ?_)
  refine lv_iconst (v := nI 0) E.1 E.2.1 dX1_groups_8 rfl ?_
  refine lv_goto (tgt := 13) E.1 E.2.1 dX1_groups_9 rfl ?_
  refine n_put E inR tyR1 tyR1_ok nmR1 hK hP (dW hN rfl) hS 0 rfl rfl 0 (by decide) flR_23 rfl rfl (tyR1_ok 0 (by decide)) (Nat.le_of_ble_eq_true rfl) dX1_groups_13 (fun H locs hP hS => ?_)
  have hP : va_P D c2 (wR ad ca T n kc ko kv k 0) H := hP
  refine lv_aload_n E.1 E.2.1 dX1_groups_16 rfl (lv_at hl 0 rfl) ?_
  refine n_get E inR hK hP 0 rfl rfl 0 (by decide) flR_23 rfl rfl dX1_groups_17 ?_
  refine n_if_ne (tgt := 31) E dX1_groups_20 rfl (by decide) (fun h => absurd h (by decide)) (fun _ => ?_)
  refine lv_aload_n E.1 E.2.1 dX1_groups_23 rfl (lv_at hl 0 rfl) ?_
  refine lv_iload_n E.1 E.2.1 dX1_groups_24 rfl (lv_at hl 1 rfl) ?_
  refine cV_i E (As := [.int (nI c)]) (rest := []) (cR_countGroups l D ad ca T n kc ko kv k 0 c hIK hn128 (by omega)) kR_82 hK hP 0 rfl rfl rfl rfl ⟨Nat.le_of_ble_eq_true rfl, Nat.le_of_ble_eq_true rfl⟩ rfl hl.1 rfl (Nat.le_of_ble_eq_true rfl) dX1_groups_25 ⟨Nat.zero_le _, Nat.zero_le _⟩ ?_
  refine lv_goto (tgt := 32) E.1 E.2.1 dX1_groups_28 rfl ?_
  exact e_wi E hr hlk hS () rfl hP dX1_groups_32
set_option maxHeartbeats 4000000 in
set_option maxRecDepth 100000 in
theorem cR_groups1 (l : Launch) (D : va_G) (ad : Nat → Nat) (ca : Nat → ClassId) (T : Nat → Nat → Int64) (n : Nat) (kc ko : Nat → Nat) (kv : Nat → Int64) (k cd : Nat) (x : Int32) (hN : inj ad 5) (hx : isC x = false) : Met l yX1_groups (wA yX1_groups cX1_groups 2 (some .int)) (rN 4) (va_Pc [.ref (ad 0), .int x] (pW D c2 (tR ca) (wR ad ca T n kc ko kv k cd))) (qI (fun z (_ : Unit) => True) D c2 (fun _ => wR ad ca T n kc ko kv k 1) (fA ad 5)) 0 0 (fA ad 5) := by
  refine met_of RX1 rfl (by decide) (Nat.le_of_ble_eq_true rfl) (fun p e s m below meth cd0 ls E hr hlk _ hB hl => ?_)
  obtain ⟨hP, hK⟩ := hB
  have hl : lv_has ls 2 [(0, .ref (ad 0)), (1, .int x)] := hl
  have hS : va_S (fA ad 5) s.heap s.heap [] := va_S.rf
  refine lv_aload_n E.1 E.2.1 dX1_groups_0 rfl (lv_at hl 0 rfl) ?_
  refine lv_iload_n E.1 E.2.1 dX1_groups_1 rfl (lv_at hl 1 rfl) ?_
  refine cS_i E (As := [.int x]) (rest := [.ref (ad 0)]) (cR_isColumn l x) kR_30 rfl rfl ⟨Nat.le_of_ble_eq_true rfl, Nat.le_of_ble_eq_true rfl⟩ rfl hl.1 rfl (Nat.le_of_ble_eq_true rfl) dX1_groups_2 ⟨Nat.zero_le _, Nat.zero_le _⟩ ?_
  refine tpi (y := bI false) (congrArg bI hx) ?_
  refine b_if_eq (tgt := 12) E dX1_groups_5 rfl (fun _ => ?_) (fun h => Bool.noConfusion h)
  refine lv_iconst (v := nI 1) E.1 E.2.1 dX1_groups_12 rfl ?_
  refine n_put E inR tyR1 tyR1_ok nmR1 hK hP (dW hN rfl) hS 0 rfl rfl 0 (by decide) flR_23 rfl rfl (tyR1_ok 0 (by decide)) (Nat.le_of_ble_eq_true rfl) dX1_groups_13 (fun H locs hP hS => ?_)
  have hP : va_P D c2 (wR ad ca T n kc ko kv k 1) H := hP
  refine lv_aload_n E.1 E.2.1 dX1_groups_16 rfl (lv_at hl 0 rfl) ?_
  refine n_get E inR hK hP 0 rfl rfl 0 (by decide) flR_23 rfl rfl dX1_groups_17 ?_
  refine n_if_ne (tgt := 31) E dX1_groups_20 rfl (by decide) (fun _ => ?_) (fun h => absurd h (by decide))
  refine lv_iconst (v := nI 0) E.1 E.2.1 dX1_groups_31 rfl ?_
  exact e_wi E hr hlk hS () trivial hP dX1_groups_32
set_option maxHeartbeats 4000000 in
set_option maxRecDepth 100000 in
theorem cR_firstOf (l : Launch) (D : va_G) (ad : Nat → Nat) (ca : Nat → ClassId) (T : Nat → Nat → Int64) (n : Nat) (kc ko : Nat → Nat) (kv : Nat → Int64) (k cd : Nat) (c i r : Nat) (hIK : iK kc ko k) (hn128 : n ≤ 128) (hc : c < 4) (hr0 : r < n) (hrF : isF (ch T kc ko kv k) T c r = true) (hrc : ct (fun u => isF (ch T kc ko kv k) T c u && decide (T u c < T r c)) n = i) (hru : ∀ t, t < n → isF (ch T kc ko kv k) T c t = true → ct (fun u => isF (ch T kc ko kv k) T c u && decide (T u c < T t c)) n = i → t = r) : Met l yX1_firstOf (wA yX1_firstOf cX1_firstOf 7 (some .int)) (rN 3) (va_Pc [.ref (ad 0), .int (nI c), .int (nI i)] (pW D c2 (tR ca) (wR ad ca T n kc ko kv k cd))) (vp_Si (fun z => z = nI r)) 0 0 (fun _ => False) := by
  refine met_of RX1 rfl (by decide) (Nat.le_of_ble_eq_true rfl) (fun p e s m below meth cd0 ls E hr hlk _ hB hl => ?_)
  obtain ⟨hP, hK⟩ := hB
  have hl : lv_has ls 7 [(0, .ref (ad 0)), (1, .int (nI c)), (2, .int (nI i))] := hl
  have hi9 : i ≤ 128 := by rw [← hrc]; exact Nat.le_trans (ct_le _ n) hn128
  refine lv_iconst (v := nI 0) E.1 E.2.1 dX1_firstOf_0 rfl ?_
  refine lv_istore_n (lv' := [(3, .int (nI 0)), (0, .ref (ad 0)), (1, .int (nI c)), (2, .int (nI i))]) E.1 E.2.1 dX1_firstOf_1 rfl hl (by decide) rfl (fun ls hl => ?_)
  refine lv_iconst (v := nI 0) E.1 E.2.1 dX1_firstOf_2 rfl ?_
  refine lv_istore (lv' := [(4, .int (nI 0)), (3, .int (nI 0)), (0, .ref (ad 0)), (1, .int (nI c)), (2, .int (nI i))]) E.1 E.2.1 dX1_firstOf_3 hl (by decide) rfl (fun ls hl => ?_)
  refine w_lp1 (fun (t : Nat) => t ≤ n) (fun (t : Nat) => n - t) (fun (t : Nat) => [(4, .int (nI t)), (3, .int (nI (if r < t then r else 0))), (0, .ref (ad 0)), (1, .int (nI c)), (2, .int (nI i))]) 0 (Nat.zero_le _) (lv_sub hl [0, 1, 2, 3, 4] rfl) (fun t ls hI hl ih5 => ?_)
  have hl : lv_has ls 7 [(4, .int (nI t)), (3, .int (nI (if r < t then r else 0))), (0, .ref (ad 0)), (1, .int (nI c)), (2, .int (nI i))] := hl
  refine lv_iload E.1 E.2.1 dX1_firstOf_5 (lv_at hl 0 rfl) ?_
  refine lv_aload_n E.1 E.2.1 dX1_firstOf_7 rfl (lv_at hl 2 rfl) ?_
  refine n_get E inR hK hP 0 rfl rfl 1 (by decide) flR_27 rfl rfl dX1_firstOf_8 ?_
  refine n_icmp_ge (tgt := 110) E dX1_firstOf_11 rfl (by omega) (by omega) (fun h11 => ?_) (fun h11 => ?_)
  · skip
    refine lv_iload_n E.1 E.2.1 dX1_firstOf_110 rfl (lv_at hl 1 rfl) ?_
    exact e_i E hr hlk (congrArg nI (if_pos (by omega))) dX1_firstOf_111
  · skip
    refine lv_aload_n E.1 E.2.1 dX1_firstOf_14 rfl (lv_at hl 2 rfl) ?_
    refine lv_iload_n E.1 E.2.1 dX1_firstOf_15 rfl (lv_at hl 3 rfl) ?_
    refine lv_iload E.1 E.2.1 dX1_firstOf_16 (lv_at hl 0 rfl) ?_
    refine cV_i E (As := [.int (nI c), .int (nI t)]) (rest := []) (cR_isFirst l D ad ca T n kc ko kv k cd c t hIK (by omega) (by omega)) kR_79 hK hP 0 rfl rfl rfl rfl ⟨Nat.le_of_ble_eq_true rfl, Nat.le_of_ble_eq_true rfl⟩ rfl hl.1 rfl (Nat.le_of_ble_eq_true rfl) dX1_firstOf_18 ⟨Nat.zero_le _, Nat.zero_le _⟩ ?_
    refine b_if_eq (tgt := 104) E dX1_firstOf_21 rfl (fun h21 => ?_) (fun h21 => ?_)
    · skip
      refine lv_iinc (k := 0) (v := nI (t + 1)) (lv' := [(4, .int (nI (t + 1))), (3, .int (nI (if r < t then r else 0))), (0, .ref (ad 0)), (1, .int (nI c)), (2, .int (nI i))]) E.1 E.2.1 dX1_firstOf_104 hl rfl (inc1 _) (by decide) rfl (fun ls hl => ?_)
      refine lv_goto (tgt := 5) E.1 E.2.1 dX1_firstOf_107 rfl ?_
      rw [fo_f (t := t) (r := r) (fun e => by rw [← e, hrF] at h21; cases h21)] at hl
      exact ih5 (t + 1) _ (by omega) (by omega) (lv_sub hl [0, 1, 2, 3, 4] rfl)
    · skip
      refine lv_iconst (v := nI 0) E.1 E.2.1 dX1_firstOf_24 rfl ?_
      refine lv_istore (lv' := [(5, .int (nI 0)), (4, .int (nI t)), (3, .int (nI (if r < t then r else 0))), (0, .ref (ad 0)), (1, .int (nI c)), (2, .int (nI i))]) E.1 E.2.1 dX1_firstOf_25 hl (by decide) rfl (fun ls hl => ?_)
      refine lv_iconst (v := nI 0) E.1 E.2.1 dX1_firstOf_27 rfl ?_
      refine lv_istore (lv' := [(6, .int (nI 0)), (5, .int (nI 0)), (4, .int (nI t)), (3, .int (nI (if r < t then r else 0))), (0, .ref (ad 0)), (1, .int (nI c)), (2, .int (nI i))]) E.1 E.2.1 dX1_firstOf_28 hl (by decide) rfl (fun ls hl => ?_)
      refine w_lp1 (fun (u : Nat) => u ≤ n) (fun (u : Nat) => n - u) (fun (u : Nat) => [(6, .int (nI u)), (5, .int (nI (ct (fun u => isF (ch T kc ko kv k) T c u && decide (T u c < T t c)) u))), (4, .int (nI t)), (3, .int (nI (if r < t then r else 0))), (0, .ref (ad 0)), (1, .int (nI c)), (2, .int (nI i))]) 0 (Nat.zero_le _) (lv_sub hl [0, 1, 2, 3, 4, 5, 6] rfl) (fun u ls hI hl ih30 => ?_)
      have hl : lv_has ls 7 [(6, .int (nI u)), (5, .int (nI (ct (fun u => isF (ch T kc ko kv k) T c u && decide (T u c < T t c)) u))), (4, .int (nI t)), (3, .int (nI (if r < t then r else 0))), (0, .ref (ad 0)), (1, .int (nI c)), (2, .int (nI i))] := hl
      refine lv_iload E.1 E.2.1 dX1_firstOf_30 (lv_at hl 0 rfl) ?_
      refine lv_aload_n E.1 E.2.1 dX1_firstOf_32 rfl (lv_at hl 4 rfl) ?_
      refine n_get E inR hK hP 0 rfl rfl 1 (by decide) flR_27 rfl rfl dX1_firstOf_33 ?_
      refine n_icmp_ge (tgt := 91) E dX1_firstOf_36 rfl (by omega) (by omega) (fun h36 => ?_) (fun h36 => ?_)
      · skip
        have e9 : u = n := by omega
        rw [e9] at hl
        have hctn := ct_le (fun u => isF (ch T kc ko kv k) T c u && decide (T u c < T t c)) n
        refine lv_iload E.1 E.2.1 dX1_firstOf_91 (lv_at hl 1 rfl) ?_
        refine lv_iload_n E.1 E.2.1 dX1_firstOf_93 rfl (lv_at hl 6 rfl) ?_
        refine n_icmp_ne (tgt := 102) E dX1_firstOf_94 rfl (by omega) (by omega) (fun h94 => ?_) (fun h94 => ?_)
        · skip
          refine lv_iload_n E.1 E.2.1 dX1_firstOf_102 rfl (lv_at hl 3 rfl) ?_
          refine tpi (y := nI (if r < t + 1 then r else 0)) (congrArg nI (fo_f (fun e => h94 (by rw [← e]; exact hrc)))) ?_
          refine lv_istore_n (lv' := [(3, .int (nI (if r < t + 1 then r else 0))), (6, .int (nI n)), (5, .int (nI (ct (fun u => isF (ch T kc ko kv k) T c u && decide (T u c < T t c)) n))), (4, .int (nI t)), (0, .ref (ad 0)), (1, .int (nI c)), (2, .int (nI i))]) E.1 E.2.1 dX1_firstOf_103 rfl hl (by decide) rfl (fun ls hl => ?_)
          refine lv_iinc (k := 3) (v := nI (t + 1)) (lv' := [(4, .int (nI (t + 1))), (3, .int (nI (if r < t + 1 then r else 0))), (6, .int (nI n)), (5, .int (nI (ct (fun u => isF (ch T kc ko kv k) T c u && decide (T u c < T t c)) n))), (0, .ref (ad 0)), (1, .int (nI c)), (2, .int (nI i))]) E.1 E.2.1 dX1_firstOf_104 hl rfl (inc1 _) (by decide) rfl (fun ls hl => ?_)
          refine lv_goto (tgt := 5) E.1 E.2.1 dX1_firstOf_107 rfl ?_
          exact ih5 (t + 1) _ (by omega) (by omega) (lv_sub hl [0, 1, 4, 5, 6] rfl)
        · skip
          refine lv_iload E.1 E.2.1 dX1_firstOf_97 (lv_at hl 2 rfl) ?_
          refine lv_goto (tgt := 103) E.1 E.2.1 dX1_firstOf_99 rfl ?_
          refine tpi (y := nI (if r < t + 1 then r else 0)) (congrArg nI (fo_t (hru t (by omega) h21 h94))) ?_
          refine lv_istore_n (lv' := [(3, .int (nI (if r < t + 1 then r else 0))), (6, .int (nI n)), (5, .int (nI (ct (fun u => isF (ch T kc ko kv k) T c u && decide (T u c < T t c)) n))), (4, .int (nI t)), (0, .ref (ad 0)), (1, .int (nI c)), (2, .int (nI i))]) E.1 E.2.1 dX1_firstOf_103 rfl hl (by decide) rfl (fun ls hl => ?_)
          refine lv_iinc (k := 3) (v := nI (t + 1)) (lv' := [(4, .int (nI (t + 1))), (3, .int (nI (if r < t + 1 then r else 0))), (6, .int (nI n)), (5, .int (nI (ct (fun u => isF (ch T kc ko kv k) T c u && decide (T u c < T t c)) n))), (0, .ref (ad 0)), (1, .int (nI c)), (2, .int (nI i))]) E.1 E.2.1 dX1_firstOf_104 hl rfl (inc1 _) (by decide) rfl (fun ls hl => ?_)
          refine lv_goto (tgt := 5) E.1 E.2.1 dX1_firstOf_107 rfl ?_
          exact ih5 (t + 1) _ (by omega) (by omega) (lv_sub hl [0, 1, 4, 5, 6] rfl)
      · skip
        refine lv_iload E.1 E.2.1 dX1_firstOf_39 (lv_at hl 1 rfl) ?_
        refine lv_aload_n E.1 E.2.1 dX1_firstOf_41 rfl (lv_at hl 4 rfl) ?_
        refine lv_iload_n E.1 E.2.1 dX1_firstOf_42 rfl (lv_at hl 5 rfl) ?_
        refine lv_iload E.1 E.2.1 dX1_firstOf_43 (lv_at hl 0 rfl) ?_
        refine cV_i E (As := [.int (nI c), .int (nI u)]) (rest := [.int (nI (ct (fun u => isF (ch T kc ko kv k) T c u && decide (T u c < T t c)) u))]) (cR_isFirst l D ad ca T n kc ko kv k cd c u hIK (by omega) (by omega)) kR_79 hK hP 0 rfl rfl rfl rfl ⟨Nat.le_of_ble_eq_true rfl, Nat.le_of_ble_eq_true rfl⟩ rfl hl.1 rfl (Nat.le_of_ble_eq_true rfl) dX1_firstOf_45 ⟨Nat.zero_le _, Nat.zero_le _⟩ ?_
        refine b_if_eq (tgt := 81) E dX1_firstOf_48 rfl (fun h48 => ?_) (fun h48 => ?_)
        · skip
          refine lv_iconst (v := nI 0) E.1 E.2.1 dX1_firstOf_81 rfl ?_
          refine n_iadd E dX1_firstOf_82 ?_
          refine lv_istore (lv' := [(5, .int (nI (ct (fun u => isF (ch T kc ko kv k) T c u && decide (T u c < T t c)) u + 0))), (6, .int (nI u)), (4, .int (nI t)), (3, .int (nI (if r < t then r else 0))), (0, .ref (ad 0)), (1, .int (nI c)), (2, .int (nI i))]) E.1 E.2.1 dX1_firstOf_83 hl (by decide) rfl (fun ls hl => ?_)
          refine lv_iinc (k := 1) (v := nI (u + 1)) (lv' := [(6, .int (nI (u + 1))), (5, .int (nI (ct (fun u => isF (ch T kc ko kv k) T c u && decide (T u c < T t c)) u + 0))), (4, .int (nI t)), (3, .int (nI (if r < t then r else 0))), (0, .ref (ad 0)), (1, .int (nI c)), (2, .int (nI i))]) E.1 E.2.1 dX1_firstOf_85 hl rfl (inc1 _) (by decide) rfl (fun ls hl => ?_)
          refine lv_goto (tgt := 30) E.1 E.2.1 dX1_firstOf_88 rfl ?_
          rw [← ct_f (p := (fun u => isF (ch T kc ko kv k) T c u && decide (T u c < T t c))) (by simp [h48])] at hl
          exact ih30 (u + 1) _ (by omega) (by omega) (lv_sub hl [0, 1, 2, 3, 4, 5, 6] rfl)
        · skip
          refine lv_aload_n E.1 E.2.1 dX1_firstOf_51 rfl (lv_at hl 4 rfl) ?_
          refine n_get E inR hK hP 0 rfl rfl 2 (by decide) flR_7 rfl rfl dX1_firstOf_52 ?_
          refine lv_iconst (v := nI 4) E.1 E.2.1 dX1_firstOf_55 rfl ?_
          refine lv_iload E.1 E.2.1 dX1_firstOf_56 (lv_at hl 0 rfl) ?_
          refine n_imul E dX1_firstOf_58 ?_
          refine lv_iload_n E.1 E.2.1 dX1_firstOf_59 rfl (lv_at hl 5 rfl) ?_
          refine n_iadd E dX1_firstOf_60 ?_
          refine n_rald E hK hP 1 0 rfl rfl u c (by omega) (by omega) (by omega) dX1_firstOf_61 ?_
          refine lv_aload_n E.1 E.2.1 dX1_firstOf_62 rfl (lv_at hl 4 rfl) ?_
          refine n_get E inR hK hP 0 rfl rfl 2 (by decide) flR_7 rfl rfl dX1_firstOf_63 ?_
          refine lv_iconst (v := nI 4) E.1 E.2.1 dX1_firstOf_66 rfl ?_
          refine lv_iload E.1 E.2.1 dX1_firstOf_67 (lv_at hl 2 rfl) ?_
          refine n_imul E dX1_firstOf_69 ?_
          refine lv_iload_n E.1 E.2.1 dX1_firstOf_70 rfl (lv_at hl 5 rfl) ?_
          refine n_iadd E dX1_firstOf_71 ?_
          refine n_rald E hK hP 1 0 rfl rfl t c (by omega) (by omega) (by omega) dX1_firstOf_72 ?_
          refine l_if_ge (tgt := 81) E dX1_firstOf_73 dX1_firstOf_74 rfl (fun h73 => ?_) (fun h73 => ?_)
          · skip
            refine lv_iconst (v := nI 0) E.1 E.2.1 dX1_firstOf_81 rfl ?_
            refine n_iadd E dX1_firstOf_82 ?_
            refine lv_istore (lv' := [(5, .int (nI (ct (fun u => isF (ch T kc ko kv k) T c u && decide (T u c < T t c)) u + 0))), (6, .int (nI u)), (4, .int (nI t)), (3, .int (nI (if r < t then r else 0))), (0, .ref (ad 0)), (1, .int (nI c)), (2, .int (nI i))]) E.1 E.2.1 dX1_firstOf_83 hl (by decide) rfl (fun ls hl => ?_)
            refine lv_iinc (k := 1) (v := nI (u + 1)) (lv' := [(6, .int (nI (u + 1))), (5, .int (nI (ct (fun u => isF (ch T kc ko kv k) T c u && decide (T u c < T t c)) u + 0))), (4, .int (nI t)), (3, .int (nI (if r < t then r else 0))), (0, .ref (ad 0)), (1, .int (nI c)), (2, .int (nI i))]) E.1 E.2.1 dX1_firstOf_85 hl rfl (inc1 _) (by decide) rfl (fun ls hl => ?_)
            refine lv_goto (tgt := 30) E.1 E.2.1 dX1_firstOf_88 rfl ?_
            rw [← ct_f (p := (fun u => isF (ch T kc ko kv k) T c u && decide (T u c < T t c))) (by simp [h48, h73])] at hl
            exact ih30 (u + 1) _ (by omega) (by omega) (lv_sub hl [0, 1, 2, 3, 4, 5, 6] rfl)
          · skip
            refine lv_iconst (v := nI 1) E.1 E.2.1 dX1_firstOf_77 rfl ?_
            refine lv_goto (tgt := 82) E.1 E.2.1 dX1_firstOf_78 rfl ?_
            refine n_iadd E dX1_firstOf_82 ?_
            refine lv_istore (lv' := [(5, .int (nI (ct (fun u => isF (ch T kc ko kv k) T c u && decide (T u c < T t c)) u + 1))), (6, .int (nI u)), (4, .int (nI t)), (3, .int (nI (if r < t then r else 0))), (0, .ref (ad 0)), (1, .int (nI c)), (2, .int (nI i))]) E.1 E.2.1 dX1_firstOf_83 hl (by decide) rfl (fun ls hl => ?_)
            refine lv_iinc (k := 1) (v := nI (u + 1)) (lv' := [(6, .int (nI (u + 1))), (5, .int (nI (ct (fun u => isF (ch T kc ko kv k) T c u && decide (T u c < T t c)) u + 1))), (4, .int (nI t)), (3, .int (nI (if r < t then r else 0))), (0, .ref (ad 0)), (1, .int (nI c)), (2, .int (nI i))]) E.1 E.2.1 dX1_firstOf_85 hl rfl (inc1 _) (by decide) rfl (fun ls hl => ?_)
            refine lv_goto (tgt := 30) E.1 E.2.1 dX1_firstOf_88 rfl ?_
            rw [← ct_t (p := (fun u => isF (ch T kc ko kv k) T c u && decide (T u c < T t c))) (by simp [h48, h73])] at hl
            exact ih30 (u + 1) _ (by omega) (by omega) (lv_sub hl [0, 1, 2, 3, 4, 5, 6] rfl)
end
section
/-! Contracts of the model: laid by program (wip/whole/gen.py). -/
set_option maxHeartbeats 4000000 in
set_option maxRecDepth 100000 in
theorem cR_group (l : Launch) (D : va_G) (ad : Nat → Nat) (ca : Nat → ClassId) (T : Nat → Nat → Int64) (n : Nat) (kc ko : Nat → Nat) (kv : Nat → Int64) (k cd : Nat) (c i w o r : Nat) (hN : inj ad 5) (hIK : iK kc ko k) (hn128 : n ≤ 128) (hc : c < 4) (ho : o < 4) (hw : w < 5) (hi0 : i < ct (isF (ch T kc ko kv k) T c) n) (hr0 : r < n) (hrF : isF (ch T kc ko kv k) T c r = true) (hrc : ct (fun u => isF (ch T kc ko kv k) T c u && decide (T u c < T r c)) n = i) (hru : ∀ t, t < n → isF (ch T kc ko kv k) T c t = true → ct (fun u => isF (ch T kc ko kv k) T c u && decide (T u c < T t c)) n = i → t = r) : Met l yX1_group (wA yX1_group cX1_group 18 (some .long)) (rN 4) (va_Pc [.ref (ad 0), .int (nI c), .int (nI i), .int (nI w), .int (nI o)] (pW D c2 (tR ca) (wR ad ca T n kc ko kv k cd))) (qL (fun z (_ : Unit) => z = (if w = 0 then T r c else if w = 1 then lN (ct (fun j => (ch T kc ko kv k) (r + j) && decide (T (r + j) c = T r c)) (n - r)) else if w = 2 then sm (fun j => if (ch T kc ko kv k) (r + j) && decide (T (r + j) c = T r c) then T (r + j) o else 0) (n - r) else gB (fun j => (ch T kc ko kv k) (r + j) && decide (T (r + j) c = T r c)) (fun j => T (r + j) o) (decide (w = 4)) (n - r))) D c2 (fun _ => wR ad ca T n kc ko kv k 0) (fA ad 5)) 0 0 (fA ad 5) := by
  refine met_of RX1 rfl (by decide) (Nat.le_of_ble_eq_true rfl) (fun p e s m below meth cd0 ls E hr hlk _ hB hl => ?_)
  obtain ⟨hP, hK⟩ := hB
  have hl : lv_has ls 18 [(0, .ref (ad 0)), (1, .int (nI c)), (2, .int (nI i)), (3, .int (nI w)), (4, .int (nI o))] := hl
  have hS : va_S (fA ad 5) s.heap s.heap [] := va_S.rf
  have hcg := ct_le (isF (ch T kc ko kv k) T c) n
  refine lv_aload_n E.1 E.2.1 dX1_group_0 rfl (lv_at hl 0 rfl) ?_
  refine lv_iload_n E.1 E.2.1 dX1_group_1 rfl (lv_at hl 1 rfl) ?_
  refine cS_i E (As := [.int (nI c)]) (rest := [.ref (ad 0)]) (cR_isColumn l (nI c)) kR_30 rfl rfl ⟨Nat.le_of_ble_eq_true rfl, Nat.le_of_ble_eq_true rfl⟩ rfl hl.1 rfl (Nat.le_of_ble_eq_true rfl) dX1_group_2 ⟨Nat.zero_le _, Nat.zero_le _⟩ ?_
  refine tpi (y := bI true) (congrArg bI (isC_n (by omega))) ?_
  refine b_if_eq (tgt := 25) E dX1_group_5 rfl (fun h => Bool.noConfusion h) (fun _ => ?_)
  refine lv_iload E.1 E.2.1 dX1_group_8 (lv_at hl 4 rfl) ?_
  refine cS_i E (As := [.int (nI o)]) (rest := [.ref (ad 0)]) (cR_isColumn l (nI o)) kR_30 rfl rfl ⟨Nat.le_of_ble_eq_true rfl, Nat.le_of_ble_eq_true rfl⟩ rfl hl.1 rfl (Nat.le_of_ble_eq_true rfl) dX1_group_10 ⟨Nat.zero_le _, Nat.zero_le _⟩ ?_
  refine tpi (y := bI true) (congrArg bI (isC_n (by omega))) ?_
  refine b_if_eq (tgt := 25) E dX1_group_13 rfl (fun h => Bool.noConfusion h) (fun _ => ?_)
  refine lv_iload_n E.1 E.2.1 dX1_group_16 rfl (lv_at hl 3 rfl) ?_
  refine n_if_lt (tgt := 25) E dX1_group_17 rfl (by omega) ?_
  refine lv_iload_n E.1 E.2.1 dX1_group_20 rfl (lv_at hl 3 rfl) ?_
  refine lv_iconst (v := nI 4) E.1 E.2.1 dX1_group_21 rfl ?_
  refine n_icmp_le (tgt := 29) E dX1_group_22 rfl (by omega) (by omega) (fun h22 => ?_) (fun h22 => ?_)
  · skip
    refine lv_iload_n E.1 E.2.1 dX1_group_29 rfl (lv_at hl 2 rfl) ?_
    refine n_if_lt (tgt := 42) E dX1_group_30 rfl (by omega) ?_
    refine lv_iload_n E.1 E.2.1 dX1_group_33 rfl (lv_at hl 2 rfl) ?_
    refine lv_aload_n E.1 E.2.1 dX1_group_34 rfl (lv_at hl 0 rfl) ?_
    refine lv_iload_n E.1 E.2.1 dX1_group_35 rfl (lv_at hl 1 rfl) ?_
    refine cV_i E (As := [.int (nI c)]) (rest := [.int (nI i), .ref (ad 0)]) (cR_countGroups l D ad ca T n kc ko kv k cd c hIK hn128 (by omega)) kR_82 hK hP 0 rfl rfl rfl rfl ⟨Nat.le_of_ble_eq_true rfl, Nat.le_of_ble_eq_true rfl⟩ rfl hl.1 rfl (Nat.le_of_ble_eq_true rfl) dX1_group_36 ⟨Nat.zero_le _, Nat.zero_le _⟩ ?_
    refine n_icmp_lt (tgt := 46) E dX1_group_39 rfl (by omega) (by omega) (fun h39 => ?_) (fun h39 => ?_)
    · skip
      refine lv_iconst (v := nI 0) E.1 E.2.1 dX1_group_46 rfl ?_
      refine n_put E inR tyR1 tyR1_ok nmR1 hK hP (dW hN rfl) hS 0 rfl rfl 0 (by decide) flR_23 rfl rfl (tyR1_ok 0 (by decide)) (Nat.le_of_ble_eq_true rfl) dX1_group_47 (fun H locs hP hS => ?_)
      have hP : va_P D c2 (wR ad ca T n kc ko kv k 0) H := hP
      refine lv_aload_n E.1 E.2.1 dX1_group_50 rfl (lv_at hl 0 rfl) ?_
      refine n_get E inR hK hP 0 rfl rfl 0 (by decide) flR_23 rfl rfl dX1_group_51 ?_
      refine n_if_le (tgt := 59) E dX1_group_54 rfl (by decide) (fun _ => ?_) (fun h => absurd h (by decide))
      refine lv_aload_n E.1 E.2.1 dX1_group_59 rfl (lv_at hl 0 rfl) ?_
      refine lv_iload_n E.1 E.2.1 dX1_group_60 rfl (lv_at hl 1 rfl) ?_
      refine lv_iload_n E.1 E.2.1 dX1_group_61 rfl (lv_at hl 2 rfl) ?_
      refine cV_i E (As := [.int (nI c), .int (nI i)]) (rest := []) (cR_firstOf l D ad ca T n kc ko kv k 0 c i r hIK hn128 (by omega) (by omega) hrF hrc hru) kR_86 hK hP 0 rfl rfl rfl rfl ⟨Nat.le_of_ble_eq_true rfl, Nat.le_of_ble_eq_true rfl⟩ rfl hl.1 rfl (Nat.le_of_ble_eq_true rfl) dX1_group_62 ⟨Nat.zero_le _, Nat.zero_le _⟩ ?_
      refine lv_istore (lv' := [(5, .int (nI r)), (0, .ref (ad 0)), (1, .int (nI c)), (2, .int (nI i)), (3, .int (nI w)), (4, .int (nI o))]) E.1 E.2.1 dX1_group_65 hl (by decide) rfl (fun ls hl => ?_)
      refine lv_aload_n E.1 E.2.1 dX1_group_67 rfl (lv_at hl 1 rfl) ?_
      refine n_get E inR hK hP 0 rfl rfl 2 (by decide) flR_7 rfl rfl dX1_group_68 ?_
      refine lv_iconst (v := nI 4) E.1 E.2.1 dX1_group_71 rfl ?_
      refine lv_iload E.1 E.2.1 dX1_group_72 (lv_at hl 0 rfl) ?_
      refine n_imul E dX1_group_74 ?_
      refine lv_iload_n E.1 E.2.1 dX1_group_75 rfl (lv_at hl 2 rfl) ?_
      refine n_iadd E dX1_group_76 ?_
      refine n_rald E hK hP 1 0 rfl rfl r c (by omega) (by omega) (by omega) dX1_group_77 ?_
      refine lv_lstore (lv' := [(6, .long (T r c)), (5, .int (nI r)), (0, .ref (ad 0)), (1, .int (nI c)), (2, .int (nI i)), (3, .int (nI w)), (4, .int (nI o))]) E.1 E.2.1 dX1_group_78 hl (by decide) rfl (fun ls hl => ?_)
      refine lv_aload_n E.1 E.2.1 dX1_group_80 rfl (lv_at hl 2 rfl) ?_
      refine n_get E inR hK hP 0 rfl rfl 2 (by decide) flR_7 rfl rfl dX1_group_81 ?_
      refine lv_iconst (v := nI 4) E.1 E.2.1 dX1_group_84 rfl ?_
      refine lv_iload E.1 E.2.1 dX1_group_85 (lv_at hl 1 rfl) ?_
      refine n_imul E dX1_group_87 ?_
      refine lv_iload E.1 E.2.1 dX1_group_88 (lv_at hl 6 rfl) ?_
      refine n_iadd E dX1_group_90 ?_
      refine n_rald E hK hP 1 0 rfl rfl r o (by omega) (by omega) (by omega) dX1_group_91 ?_
      refine lv_lstore (lv' := [(8, .long (T r o)), (6, .long (T r c)), (5, .int (nI r)), (0, .ref (ad 0)), (1, .int (nI c)), (2, .int (nI i)), (3, .int (nI w)), (4, .int (nI o))]) E.1 E.2.1 dX1_group_92 hl (by decide) rfl (fun ls hl => ?_)
      refine lv_lload E.1 E.2.1 dX1_group_94 (lv_at hl 0 rfl) ?_
      refine lv_lstore (lv' := [(10, .long (T r o)), (8, .long (T r o)), (6, .long (T r c)), (5, .int (nI r)), (0, .ref (ad 0)), (1, .int (nI c)), (2, .int (nI i)), (3, .int (nI w)), (4, .int (nI o))]) E.1 E.2.1 dX1_group_96 hl (by decide) rfl (fun ls hl => ?_)
      refine lv_lconst (v := 0) E.1 E.2.1 dX1_group_98 rfl ?_
      refine lv_lstore (lv' := [(12, .long 0), (10, .long (T r o)), (8, .long (T r o)), (6, .long (T r c)), (5, .int (nI r)), (0, .ref (ad 0)), (1, .int (nI c)), (2, .int (nI i)), (3, .int (nI w)), (4, .int (nI o))]) E.1 E.2.1 dX1_group_99 hl (by decide) rfl (fun ls hl => ?_)
      refine lv_iconst (v := nI 0) E.1 E.2.1 dX1_group_101 rfl ?_
      refine lv_istore (lv' := [(14, .int (nI 0)), (12, .long 0), (10, .long (T r o)), (8, .long (T r o)), (6, .long (T r c)), (5, .int (nI r)), (0, .ref (ad 0)), (1, .int (nI c)), (2, .int (nI i)), (3, .int (nI w)), (4, .int (nI o))]) E.1 E.2.1 dX1_group_102 hl (by decide) rfl (fun ls hl => ?_)
      refine lv_iload E.1 E.2.1 dX1_group_104 (lv_at hl 5 rfl) ?_
      refine lv_istore (lv' := [(15, .int (nI r)), (14, .int (nI 0)), (12, .long 0), (10, .long (T r o)), (8, .long (T r o)), (6, .long (T r c)), (5, .int (nI r)), (0, .ref (ad 0)), (1, .int (nI c)), (2, .int (nI i)), (3, .int (nI w)), (4, .int (nI o))]) E.1 E.2.1 dX1_group_106 hl (by decide) rfl (fun ls hl => ?_)
      refine w_lp1 (fun (d : Nat) => r + d ≤ n) (fun (d : Nat) => n - (r + d)) (fun (d : Nat) => [(15, .int (nI (r + d))), (14, .int (nI (ct (fun j => (ch T kc ko kv k) (r + j) && decide (T (r + j) c = T r c)) d))), (12, .long (sm (fun j => if (ch T kc ko kv k) (r + j) && decide (T (r + j) c = T r c) then T (r + j) o else 0) d)), (10, .long (gB (fun j => (ch T kc ko kv k) (r + j) && decide (T (r + j) c = T r c)) (fun j => T (r + j) o) true d)), (8, .long (gB (fun j => (ch T kc ko kv k) (r + j) && decide (T (r + j) c = T r c)) (fun j => T (r + j) o) false d)), (6, .long (T r c)), (5, .int (nI r)), (0, .ref (ad 0)), (1, .int (nI c)), (3, .int (nI w)), (4, .int (nI o))]) 0 (by omega) (lv_sub hl [0, 1, 2, 3, 4, 5, 6, 7, 8, 10, 11] rfl) (fun d ls hI hl ih108 => ?_)
      have hl : lv_has ls 18 [(15, .int (nI (r + d))), (14, .int (nI (ct (fun j => (ch T kc ko kv k) (r + j) && decide (T (r + j) c = T r c)) d))), (12, .long (sm (fun j => if (ch T kc ko kv k) (r + j) && decide (T (r + j) c = T r c) then T (r + j) o else 0) d)), (10, .long (gB (fun j => (ch T kc ko kv k) (r + j) && decide (T (r + j) c = T r c)) (fun j => T (r + j) o) true d)), (8, .long (gB (fun j => (ch T kc ko kv k) (r + j) && decide (T (r + j) c = T r c)) (fun j => T (r + j) o) false d)), (6, .long (T r c)), (5, .int (nI r)), (0, .ref (ad 0)), (1, .int (nI c)), (3, .int (nI w)), (4, .int (nI o))] := hl
      refine lv_iload E.1 E.2.1 dX1_group_108 (lv_at hl 0 rfl) ?_
      refine lv_aload_n E.1 E.2.1 dX1_group_110 rfl (lv_at hl 7 rfl) ?_
      refine n_get E inR hK hP 0 rfl rfl 1 (by decide) flR_27 rfl rfl dX1_group_111 ?_
      refine n_icmp_ge (tgt := 207) E dX1_group_114 rfl (by omega) (by omega) (fun h114 => ?_) (fun h114 => ?_)
      · skip
        have hctd := ct_le (fun j => (ch T kc ko kv k) (r + j) && decide (T (r + j) c = T r c)) d
        refine lv_iload_n E.1 E.2.1 dX1_group_207 rfl (lv_at hl 9 rfl) ?_
        refine n_if_ne (tgt := 216) E dX1_group_208 rfl (by omega) (fun h208 => ?_) (fun h208 => ?_)
        · skip
          refine lv_iload_n E.1 E.2.1 dX1_group_216 rfl (lv_at hl 9 rfl) ?_
          refine lv_iconst (v := nI 1) E.1 E.2.1 dX1_group_217 rfl ?_
          refine n_icmp_ne (tgt := 227) E dX1_group_218 rfl (by omega) (by omega) (fun h218 => ?_) (fun h218 => ?_)
          · skip
            refine lv_iload_n E.1 E.2.1 dX1_group_227 rfl (lv_at hl 9 rfl) ?_
            refine lv_iconst (v := nI 2) E.1 E.2.1 dX1_group_228 rfl ?_
            refine n_icmp_ne (tgt := 237) E dX1_group_229 rfl (by omega) (by omega) (fun h229 => ?_) (fun h229 => ?_)
            · skip
              refine lv_iload_n E.1 E.2.1 dX1_group_237 rfl (lv_at hl 9 rfl) ?_
              refine lv_iconst (v := nI 3) E.1 E.2.1 dX1_group_238 rfl ?_
              refine n_icmp_ne (tgt := 247) E dX1_group_239 rfl (by omega) (by omega) (fun h239 => ?_) (fun h239 => ?_)
              · skip
                refine lv_lload E.1 E.2.1 dX1_group_247 (lv_at hl 3 rfl) ?_
                exact e_wl E hr hlk hS () (by rw [show n - r = d by omega]; have e4 : w = 4 := (by omega); subst e4; rfl) hP dX1_group_249
              · skip
                refine lv_lload E.1 E.2.1 dX1_group_242 (lv_at hl 4 rfl) ?_
                refine lv_goto (tgt := 249) E.1 E.2.1 dX1_group_244 rfl ?_
                exact e_wl E hr hlk hS () (by rw [show n - r = d by omega]; subst h239; rfl) hP dX1_group_249
            · skip
              refine lv_lload E.1 E.2.1 dX1_group_232 (lv_at hl 2 rfl) ?_
              refine lv_goto (tgt := 249) E.1 E.2.1 dX1_group_234 rfl ?_
              exact e_wl E hr hlk hS () (by rw [show n - r = d by omega]; subst h229; rfl) hP dX1_group_249
          · skip
            refine lv_iload E.1 E.2.1 dX1_group_221 (lv_at hl 1 rfl) ?_
            refine n_i2l E (by omega) dX1_group_223 ?_
            refine lv_goto (tgt := 249) E.1 E.2.1 dX1_group_224 rfl ?_
            exact e_wl E hr hlk hS () (by rw [show n - r = d by omega]; subst h218; rfl) hP dX1_group_249
        · skip
          refine lv_lload E.1 E.2.1 dX1_group_211 (lv_at hl 5 rfl) ?_
          refine lv_goto (tgt := 249) E.1 E.2.1 dX1_group_213 rfl ?_
          exact e_wl E hr hlk hS () (by rw [show n - r = d by omega]; subst h208; rfl) hP dX1_group_249
      · skip
        refine lv_aload_n E.1 E.2.1 dX1_group_117 rfl (lv_at hl 7 rfl) ?_
        refine lv_iload E.1 E.2.1 dX1_group_118 (lv_at hl 0 rfl) ?_
        refine cV_i E (As := [.int (nI (r + d))]) (rest := []) (cR_isChosen l D ad ca T n kc ko kv k 0 (r + d) hIK (by omega)) kR_41 hK hP 0 rfl rfl rfl rfl ⟨Nat.le_of_ble_eq_true rfl, Nat.le_of_ble_eq_true rfl⟩ rfl hl.1 rfl (Nat.le_of_ble_eq_true rfl) dX1_group_120 ⟨Nat.zero_le _, Nat.zero_le _⟩ ?_
        refine b_if_eq (tgt := 201) E dX1_group_123 rfl (fun h123 => ?_) (fun h123 => ?_)
        · skip
          refine lv_iinc (k := 0) (v := nI (r + d + 1)) (lv' := [(15, .int (nI (r + d + 1))), (14, .int (nI (ct (fun j => (ch T kc ko kv k) (r + j) && decide (T (r + j) c = T r c)) d))), (12, .long (sm (fun j => if (ch T kc ko kv k) (r + j) && decide (T (r + j) c = T r c) then T (r + j) o else 0) d)), (10, .long (gB (fun j => (ch T kc ko kv k) (r + j) && decide (T (r + j) c = T r c)) (fun j => T (r + j) o) true d)), (8, .long (gB (fun j => (ch T kc ko kv k) (r + j) && decide (T (r + j) c = T r c)) (fun j => T (r + j) o) false d)), (6, .long (T r c)), (5, .int (nI r)), (0, .ref (ad 0)), (1, .int (nI c)), (3, .int (nI w)), (4, .int (nI o))]) E.1 E.2.1 dX1_group_201 hl rfl (inc1 _) (by decide) rfl (fun ls hl => ?_)
          refine lv_goto (tgt := 108) E.1 E.2.1 dX1_group_204 rfl ?_
          have hKf : (fun j => (ch T kc ko kv k) (r + j) && decide (T (r + j) c = T r c)) d = false := (show ((ch T kc ko kv k) (r + d) && decide (T (r + d) c = T r c)) = false by rw [h123]; rfl)
          rw [← ct_f (p := (fun j => (ch T kc ko kv k) (r + j) && decide (T (r + j) c = T r c))) hKf, sm_n (f := fun j => T (r + j) o) hKf, gB_n (f := (fun j => T (r + j) o)) (d := true) hKf, gB_n (f := (fun j => T (r + j) o)) (d := false) hKf] at hl
          exact ih108 (d + 1) _ (by omega) (by omega) (lv_sub hl [0, 1, 2, 3, 4, 5, 6, 7, 8, 9, 10] rfl)
        · skip
          refine lv_aload_n E.1 E.2.1 dX1_group_126 rfl (lv_at hl 7 rfl) ?_
          refine n_get E inR hK hP 0 rfl rfl 2 (by decide) flR_7 rfl rfl dX1_group_127 ?_
          refine lv_iconst (v := nI 4) E.1 E.2.1 dX1_group_130 rfl ?_
          refine lv_iload E.1 E.2.1 dX1_group_131 (lv_at hl 0 rfl) ?_
          refine n_imul E dX1_group_133 ?_
          refine lv_iload_n E.1 E.2.1 dX1_group_134 rfl (lv_at hl 8 rfl) ?_
          refine n_iadd E dX1_group_135 ?_
          refine n_rald E hK hP 1 0 rfl rfl (r + d) c (by omega) (by omega) (by omega) dX1_group_136 ?_
          refine lv_lload E.1 E.2.1 dX1_group_137 (lv_at hl 5 rfl) ?_
          refine l_if_ne (tgt := 201) E dX1_group_139 dX1_group_140 rfl (fun h139 => ?_) (fun h139 => ?_)
          · skip
            refine lv_iinc (k := 0) (v := nI (r + d + 1)) (lv' := [(15, .int (nI (r + d + 1))), (14, .int (nI (ct (fun j => (ch T kc ko kv k) (r + j) && decide (T (r + j) c = T r c)) d))), (12, .long (sm (fun j => if (ch T kc ko kv k) (r + j) && decide (T (r + j) c = T r c) then T (r + j) o else 0) d)), (10, .long (gB (fun j => (ch T kc ko kv k) (r + j) && decide (T (r + j) c = T r c)) (fun j => T (r + j) o) true d)), (8, .long (gB (fun j => (ch T kc ko kv k) (r + j) && decide (T (r + j) c = T r c)) (fun j => T (r + j) o) false d)), (6, .long (T r c)), (5, .int (nI r)), (0, .ref (ad 0)), (1, .int (nI c)), (3, .int (nI w)), (4, .int (nI o))]) E.1 E.2.1 dX1_group_201 hl rfl (inc1 _) (by decide) rfl (fun ls hl => ?_)
            refine lv_goto (tgt := 108) E.1 E.2.1 dX1_group_204 rfl ?_
            have hKf : (fun j => (ch T kc ko kv k) (r + j) && decide (T (r + j) c = T r c)) d = false := (show ((ch T kc ko kv k) (r + d) && decide (T (r + d) c = T r c)) = false by rw [decide_eq_false h139, Bool.and_false])
            rw [← ct_f (p := (fun j => (ch T kc ko kv k) (r + j) && decide (T (r + j) c = T r c))) hKf, sm_n (f := fun j => T (r + j) o) hKf, gB_n (f := (fun j => T (r + j) o)) (d := true) hKf, gB_n (f := (fun j => T (r + j) o)) (d := false) hKf] at hl
            exact ih108 (d + 1) _ (by omega) (by omega) (lv_sub hl [0, 1, 2, 3, 4, 5, 6, 7, 8, 9, 10] rfl)
          · skip
            have hKt : (fun j => (ch T kc ko kv k) (r + j) && decide (T (r + j) c = T r c)) d = true := (show ((ch T kc ko kv k) (r + d) && decide (T (r + d) c = T r c)) = true by rw [h123, decide_eq_true h139]; rfl)
            refine lv_aload_n E.1 E.2.1 dX1_group_143 rfl (lv_at hl 7 rfl) ?_
            refine n_get E inR hK hP 0 rfl rfl 2 (by decide) flR_7 rfl rfl dX1_group_144 ?_
            refine lv_iconst (v := nI 4) E.1 E.2.1 dX1_group_147 rfl ?_
            refine lv_iload E.1 E.2.1 dX1_group_148 (lv_at hl 0 rfl) ?_
            refine n_imul E dX1_group_150 ?_
            refine lv_iload E.1 E.2.1 dX1_group_151 (lv_at hl 10 rfl) ?_
            refine n_iadd E dX1_group_153 ?_
            refine n_rald E hK hP 1 0 rfl rfl (r + d) o (by omega) (by omega) (by omega) dX1_group_154 ?_
            refine lv_lstore (lv' := [(16, .long (T (r + d) o)), (15, .int (nI (r + d))), (14, .int (nI (ct (fun j => (ch T kc ko kv k) (r + j) && decide (T (r + j) c = T r c)) d))), (12, .long (sm (fun j => if (ch T kc ko kv k) (r + j) && decide (T (r + j) c = T r c) then T (r + j) o else 0) d)), (10, .long (gB (fun j => (ch T kc ko kv k) (r + j) && decide (T (r + j) c = T r c)) (fun j => T (r + j) o) true d)), (8, .long (gB (fun j => (ch T kc ko kv k) (r + j) && decide (T (r + j) c = T r c)) (fun j => T (r + j) o) false d)), (6, .long (T r c)), (5, .int (nI r)), (0, .ref (ad 0)), (1, .int (nI c)), (3, .int (nI w)), (4, .int (nI o))]) E.1 E.2.1 dX1_group_155 hl (by decide) rfl (fun ls hl => ?_)
            refine lv_iinc (k := 2) (v := nI (ct (fun j => (ch T kc ko kv k) (r + j) && decide (T (r + j) c = T r c)) d + 1)) (lv' := [(14, .int (nI (ct (fun j => (ch T kc ko kv k) (r + j) && decide (T (r + j) c = T r c)) d + 1))), (16, .long (T (r + d) o)), (15, .int (nI (r + d))), (12, .long (sm (fun j => if (ch T kc ko kv k) (r + j) && decide (T (r + j) c = T r c) then T (r + j) o else 0) d)), (10, .long (gB (fun j => (ch T kc ko kv k) (r + j) && decide (T (r + j) c = T r c)) (fun j => T (r + j) o) true d)), (8, .long (gB (fun j => (ch T kc ko kv k) (r + j) && decide (T (r + j) c = T r c)) (fun j => T (r + j) o) false d)), (6, .long (T r c)), (5, .int (nI r)), (0, .ref (ad 0)), (1, .int (nI c)), (3, .int (nI w)), (4, .int (nI o))]) E.1 E.2.1 dX1_group_157 hl rfl (inc1 _) (by decide) rfl (fun ls hl => ?_)
            refine lv_lload E.1 E.2.1 dX1_group_160 (lv_at hl 3 rfl) ?_
            refine lv_lload E.1 E.2.1 dX1_group_162 (lv_at hl 1 rfl) ?_
            refine lv_ladd E.1 E.2.1 dX1_group_164 ?_
            refine tpl (y := sm (fun j => if (ch T kc ko kv k) (r + j) && decide (T (r + j) c = T r c) then T (r + j) o else 0) (d + 1)) (sm_y (f := fun j => T (r + j) o) hKt) ?_
            refine lv_lstore (lv' := [(12, .long (sm (fun j => if (ch T kc ko kv k) (r + j) && decide (T (r + j) c = T r c) then T (r + j) o else 0) (d + 1))), (14, .int (nI (ct (fun j => (ch T kc ko kv k) (r + j) && decide (T (r + j) c = T r c)) d + 1))), (16, .long (T (r + d) o)), (15, .int (nI (r + d))), (10, .long (gB (fun j => (ch T kc ko kv k) (r + j) && decide (T (r + j) c = T r c)) (fun j => T (r + j) o) true d)), (8, .long (gB (fun j => (ch T kc ko kv k) (r + j) && decide (T (r + j) c = T r c)) (fun j => T (r + j) o) false d)), (6, .long (T r c)), (5, .int (nI r)), (0, .ref (ad 0)), (1, .int (nI c)), (3, .int (nI w)), (4, .int (nI o))]) E.1 E.2.1 dX1_group_165 hl (by decide) rfl (fun ls hl => ?_)
            refine lv_lload E.1 E.2.1 dX1_group_167 (lv_at hl 2 rfl) ?_
            refine lv_lload E.1 E.2.1 dX1_group_169 (lv_at hl 5 rfl) ?_
            refine l_if_ge (tgt := 180) E dX1_group_171 dX1_group_172 rfl (fun h171 => ?_) (fun h171 => ?_)
            · skip
              refine lv_lload E.1 E.2.1 dX1_group_180 (lv_at hl 5 rfl) ?_
              refine tpl (y := gB (fun j => (ch T kc ko kv k) (r + j) && decide (T (r + j) c = T r c)) (fun j => T (r + j) o) false (d + 1)) (gB_f (f := (fun j => T (r + j) o)) hKt (bef_Ff h171)) ?_
              refine lv_lstore (lv' := [(8, .long (gB (fun j => (ch T kc ko kv k) (r + j) && decide (T (r + j) c = T r c)) (fun j => T (r + j) o) false (d + 1))), (12, .long (sm (fun j => if (ch T kc ko kv k) (r + j) && decide (T (r + j) c = T r c) then T (r + j) o else 0) (d + 1))), (14, .int (nI (ct (fun j => (ch T kc ko kv k) (r + j) && decide (T (r + j) c = T r c)) d + 1))), (16, .long (T (r + d) o)), (15, .int (nI (r + d))), (10, .long (gB (fun j => (ch T kc ko kv k) (r + j) && decide (T (r + j) c = T r c)) (fun j => T (r + j) o) true d)), (6, .long (T r c)), (5, .int (nI r)), (0, .ref (ad 0)), (1, .int (nI c)), (3, .int (nI w)), (4, .int (nI o))]) E.1 E.2.1 dX1_group_182 hl (by decide) rfl (fun ls hl => ?_)
              refine lv_lload E.1 E.2.1 dX1_group_184 (lv_at hl 3 rfl) ?_
              refine lv_lload E.1 E.2.1 dX1_group_186 (lv_at hl 5 rfl) ?_
              refine l_if_le (tgt := 197) E dX1_group_188 dX1_group_189 rfl (fun h188 => ?_) (fun h188 => ?_)
              · skip
                refine lv_lload E.1 E.2.1 dX1_group_197 (lv_at hl 5 rfl) ?_
                refine tpl (y := gB (fun j => (ch T kc ko kv k) (r + j) && decide (T (r + j) c = T r c)) (fun j => T (r + j) o) true (d + 1)) (gB_f (f := (fun j => T (r + j) o)) hKt (bef_Tf h188)) ?_
                refine lv_lstore (lv' := [(10, .long (gB (fun j => (ch T kc ko kv k) (r + j) && decide (T (r + j) c = T r c)) (fun j => T (r + j) o) true (d + 1))), (8, .long (gB (fun j => (ch T kc ko kv k) (r + j) && decide (T (r + j) c = T r c)) (fun j => T (r + j) o) false (d + 1))), (12, .long (sm (fun j => if (ch T kc ko kv k) (r + j) && decide (T (r + j) c = T r c) then T (r + j) o else 0) (d + 1))), (14, .int (nI (ct (fun j => (ch T kc ko kv k) (r + j) && decide (T (r + j) c = T r c)) d + 1))), (16, .long (T (r + d) o)), (15, .int (nI (r + d))), (6, .long (T r c)), (5, .int (nI r)), (0, .ref (ad 0)), (1, .int (nI c)), (3, .int (nI w)), (4, .int (nI o))]) E.1 E.2.1 dX1_group_199 hl (by decide) rfl (fun ls hl => ?_)
                refine lv_iinc (k := 5) (v := nI (r + d + 1)) (lv' := [(15, .int (nI (r + d + 1))), (10, .long (gB (fun j => (ch T kc ko kv k) (r + j) && decide (T (r + j) c = T r c)) (fun j => T (r + j) o) true (d + 1))), (8, .long (gB (fun j => (ch T kc ko kv k) (r + j) && decide (T (r + j) c = T r c)) (fun j => T (r + j) o) false (d + 1))), (12, .long (sm (fun j => if (ch T kc ko kv k) (r + j) && decide (T (r + j) c = T r c) then T (r + j) o else 0) (d + 1))), (14, .int (nI (ct (fun j => (ch T kc ko kv k) (r + j) && decide (T (r + j) c = T r c)) d + 1))), (16, .long (T (r + d) o)), (6, .long (T r c)), (5, .int (nI r)), (0, .ref (ad 0)), (1, .int (nI c)), (3, .int (nI w)), (4, .int (nI o))]) E.1 E.2.1 dX1_group_201 hl rfl (inc1 _) (by decide) rfl (fun ls hl => ?_)
                refine lv_goto (tgt := 108) E.1 E.2.1 dX1_group_204 rfl ?_
                rw [← ct_t (p := (fun j => (ch T kc ko kv k) (r + j) && decide (T (r + j) c = T r c))) hKt] at hl
                exact ih108 (d + 1) _ (by omega) (by omega) (lv_sub hl [0, 4, 3, 1, 2, 6, 7, 8, 9, 10, 11] rfl)
              · skip
                refine lv_lload E.1 E.2.1 dX1_group_192 (lv_at hl 3 rfl) ?_
                refine lv_goto (tgt := 199) E.1 E.2.1 dX1_group_194 rfl ?_
                refine tpl (y := gB (fun j => (ch T kc ko kv k) (r + j) && decide (T (r + j) c = T r c)) (fun j => T (r + j) o) true (d + 1)) (gB_t (f := (fun j => T (r + j) o)) hKt (bef_Tt h188)) ?_
                refine lv_lstore (lv' := [(10, .long (gB (fun j => (ch T kc ko kv k) (r + j) && decide (T (r + j) c = T r c)) (fun j => T (r + j) o) true (d + 1))), (8, .long (gB (fun j => (ch T kc ko kv k) (r + j) && decide (T (r + j) c = T r c)) (fun j => T (r + j) o) false (d + 1))), (12, .long (sm (fun j => if (ch T kc ko kv k) (r + j) && decide (T (r + j) c = T r c) then T (r + j) o else 0) (d + 1))), (14, .int (nI (ct (fun j => (ch T kc ko kv k) (r + j) && decide (T (r + j) c = T r c)) d + 1))), (16, .long (T (r + d) o)), (15, .int (nI (r + d))), (6, .long (T r c)), (5, .int (nI r)), (0, .ref (ad 0)), (1, .int (nI c)), (3, .int (nI w)), (4, .int (nI o))]) E.1 E.2.1 dX1_group_199 hl (by decide) rfl (fun ls hl => ?_)
                refine lv_iinc (k := 5) (v := nI (r + d + 1)) (lv' := [(15, .int (nI (r + d + 1))), (10, .long (gB (fun j => (ch T kc ko kv k) (r + j) && decide (T (r + j) c = T r c)) (fun j => T (r + j) o) true (d + 1))), (8, .long (gB (fun j => (ch T kc ko kv k) (r + j) && decide (T (r + j) c = T r c)) (fun j => T (r + j) o) false (d + 1))), (12, .long (sm (fun j => if (ch T kc ko kv k) (r + j) && decide (T (r + j) c = T r c) then T (r + j) o else 0) (d + 1))), (14, .int (nI (ct (fun j => (ch T kc ko kv k) (r + j) && decide (T (r + j) c = T r c)) d + 1))), (16, .long (T (r + d) o)), (6, .long (T r c)), (5, .int (nI r)), (0, .ref (ad 0)), (1, .int (nI c)), (3, .int (nI w)), (4, .int (nI o))]) E.1 E.2.1 dX1_group_201 hl rfl (inc1 _) (by decide) rfl (fun ls hl => ?_)
                refine lv_goto (tgt := 108) E.1 E.2.1 dX1_group_204 rfl ?_
                rw [← ct_t (p := (fun j => (ch T kc ko kv k) (r + j) && decide (T (r + j) c = T r c))) hKt] at hl
                exact ih108 (d + 1) _ (by omega) (by omega) (lv_sub hl [0, 4, 3, 1, 2, 6, 7, 8, 9, 10, 11] rfl)
            · skip
              refine lv_lload E.1 E.2.1 dX1_group_175 (lv_at hl 2 rfl) ?_
              refine lv_goto (tgt := 182) E.1 E.2.1 dX1_group_177 rfl ?_
              refine tpl (y := gB (fun j => (ch T kc ko kv k) (r + j) && decide (T (r + j) c = T r c)) (fun j => T (r + j) o) false (d + 1)) (gB_t (f := (fun j => T (r + j) o)) hKt (bef_Ft h171)) ?_
              refine lv_lstore (lv' := [(8, .long (gB (fun j => (ch T kc ko kv k) (r + j) && decide (T (r + j) c = T r c)) (fun j => T (r + j) o) false (d + 1))), (12, .long (sm (fun j => if (ch T kc ko kv k) (r + j) && decide (T (r + j) c = T r c) then T (r + j) o else 0) (d + 1))), (14, .int (nI (ct (fun j => (ch T kc ko kv k) (r + j) && decide (T (r + j) c = T r c)) d + 1))), (16, .long (T (r + d) o)), (15, .int (nI (r + d))), (10, .long (gB (fun j => (ch T kc ko kv k) (r + j) && decide (T (r + j) c = T r c)) (fun j => T (r + j) o) true d)), (6, .long (T r c)), (5, .int (nI r)), (0, .ref (ad 0)), (1, .int (nI c)), (3, .int (nI w)), (4, .int (nI o))]) E.1 E.2.1 dX1_group_182 hl (by decide) rfl (fun ls hl => ?_)
              refine lv_lload E.1 E.2.1 dX1_group_184 (lv_at hl 3 rfl) ?_
              refine lv_lload E.1 E.2.1 dX1_group_186 (lv_at hl 5 rfl) ?_
              refine l_if_le (tgt := 197) E dX1_group_188 dX1_group_189 rfl (fun h188 => ?_) (fun h188 => ?_)
              · skip
                refine lv_lload E.1 E.2.1 dX1_group_197 (lv_at hl 5 rfl) ?_
                refine tpl (y := gB (fun j => (ch T kc ko kv k) (r + j) && decide (T (r + j) c = T r c)) (fun j => T (r + j) o) true (d + 1)) (gB_f (f := (fun j => T (r + j) o)) hKt (bef_Tf h188)) ?_
                refine lv_lstore (lv' := [(10, .long (gB (fun j => (ch T kc ko kv k) (r + j) && decide (T (r + j) c = T r c)) (fun j => T (r + j) o) true (d + 1))), (8, .long (gB (fun j => (ch T kc ko kv k) (r + j) && decide (T (r + j) c = T r c)) (fun j => T (r + j) o) false (d + 1))), (12, .long (sm (fun j => if (ch T kc ko kv k) (r + j) && decide (T (r + j) c = T r c) then T (r + j) o else 0) (d + 1))), (14, .int (nI (ct (fun j => (ch T kc ko kv k) (r + j) && decide (T (r + j) c = T r c)) d + 1))), (16, .long (T (r + d) o)), (15, .int (nI (r + d))), (6, .long (T r c)), (5, .int (nI r)), (0, .ref (ad 0)), (1, .int (nI c)), (3, .int (nI w)), (4, .int (nI o))]) E.1 E.2.1 dX1_group_199 hl (by decide) rfl (fun ls hl => ?_)
                refine lv_iinc (k := 5) (v := nI (r + d + 1)) (lv' := [(15, .int (nI (r + d + 1))), (10, .long (gB (fun j => (ch T kc ko kv k) (r + j) && decide (T (r + j) c = T r c)) (fun j => T (r + j) o) true (d + 1))), (8, .long (gB (fun j => (ch T kc ko kv k) (r + j) && decide (T (r + j) c = T r c)) (fun j => T (r + j) o) false (d + 1))), (12, .long (sm (fun j => if (ch T kc ko kv k) (r + j) && decide (T (r + j) c = T r c) then T (r + j) o else 0) (d + 1))), (14, .int (nI (ct (fun j => (ch T kc ko kv k) (r + j) && decide (T (r + j) c = T r c)) d + 1))), (16, .long (T (r + d) o)), (6, .long (T r c)), (5, .int (nI r)), (0, .ref (ad 0)), (1, .int (nI c)), (3, .int (nI w)), (4, .int (nI o))]) E.1 E.2.1 dX1_group_201 hl rfl (inc1 _) (by decide) rfl (fun ls hl => ?_)
                refine lv_goto (tgt := 108) E.1 E.2.1 dX1_group_204 rfl ?_
                rw [← ct_t (p := (fun j => (ch T kc ko kv k) (r + j) && decide (T (r + j) c = T r c))) hKt] at hl
                exact ih108 (d + 1) _ (by omega) (by omega) (lv_sub hl [0, 4, 3, 1, 2, 6, 7, 8, 9, 10, 11] rfl)
              · skip
                refine lv_lload E.1 E.2.1 dX1_group_192 (lv_at hl 3 rfl) ?_
                refine lv_goto (tgt := 199) E.1 E.2.1 dX1_group_194 rfl ?_
                refine tpl (y := gB (fun j => (ch T kc ko kv k) (r + j) && decide (T (r + j) c = T r c)) (fun j => T (r + j) o) true (d + 1)) (gB_t (f := (fun j => T (r + j) o)) hKt (bef_Tt h188)) ?_
                refine lv_lstore (lv' := [(10, .long (gB (fun j => (ch T kc ko kv k) (r + j) && decide (T (r + j) c = T r c)) (fun j => T (r + j) o) true (d + 1))), (8, .long (gB (fun j => (ch T kc ko kv k) (r + j) && decide (T (r + j) c = T r c)) (fun j => T (r + j) o) false (d + 1))), (12, .long (sm (fun j => if (ch T kc ko kv k) (r + j) && decide (T (r + j) c = T r c) then T (r + j) o else 0) (d + 1))), (14, .int (nI (ct (fun j => (ch T kc ko kv k) (r + j) && decide (T (r + j) c = T r c)) d + 1))), (16, .long (T (r + d) o)), (15, .int (nI (r + d))), (6, .long (T r c)), (5, .int (nI r)), (0, .ref (ad 0)), (1, .int (nI c)), (3, .int (nI w)), (4, .int (nI o))]) E.1 E.2.1 dX1_group_199 hl (by decide) rfl (fun ls hl => ?_)
                refine lv_iinc (k := 5) (v := nI (r + d + 1)) (lv' := [(15, .int (nI (r + d + 1))), (10, .long (gB (fun j => (ch T kc ko kv k) (r + j) && decide (T (r + j) c = T r c)) (fun j => T (r + j) o) true (d + 1))), (8, .long (gB (fun j => (ch T kc ko kv k) (r + j) && decide (T (r + j) c = T r c)) (fun j => T (r + j) o) false (d + 1))), (12, .long (sm (fun j => if (ch T kc ko kv k) (r + j) && decide (T (r + j) c = T r c) then T (r + j) o else 0) (d + 1))), (14, .int (nI (ct (fun j => (ch T kc ko kv k) (r + j) && decide (T (r + j) c = T r c)) d + 1))), (16, .long (T (r + d) o)), (6, .long (T r c)), (5, .int (nI r)), (0, .ref (ad 0)), (1, .int (nI c)), (3, .int (nI w)), (4, .int (nI o))]) E.1 E.2.1 dX1_group_201 hl rfl (inc1 _) (by decide) rfl (fun ls hl => ?_)
                refine lv_goto (tgt := 108) E.1 E.2.1 dX1_group_204 rfl ?_
                rw [← ct_t (p := (fun j => (ch T kc ko kv k) (r + j) && decide (T (r + j) c = T r c))) hKt] at hl
                exact ih108 (d + 1) _ (by omega) (by omega) (lv_sub hl [0, 4, 3, 1, 2, 6, 7, 8, 9, 10, 11] rfl)
    · skip
      exfalso; omega
  · skip
    exfalso; omega
set_option maxHeartbeats 4000000 in
set_option maxRecDepth 100000 in
theorem cR_group1 (l : Launch) (D : va_G) (ad : Nat → Nat) (ca : Nat → ClassId) (T : Nat → Nat → Int64) (n : Nat) (kc ko : Nat → Nat) (kv : Nat → Int64) (k cd : Nat) (x y v u : Int32) (hN : inj ad 5) (hx : isC x = false) : Met l yX1_group (wA yX1_group cX1_group 18 (some .long)) (rN 4) (va_Pc [.ref (ad 0), .int x, .int y, .int v, .int u] (pW D c2 (tR ca) (wR ad ca T n kc ko kv k cd))) (qL (fun z (_ : Unit) => True) D c2 (fun _ => wR ad ca T n kc ko kv k 1) (fA ad 5)) 0 0 (fA ad 5) := by
  refine met_of RX1 rfl (by decide) (Nat.le_of_ble_eq_true rfl) (fun p e s m below meth cd0 ls E hr hlk _ hB hl => ?_)
  obtain ⟨hP, hK⟩ := hB
  have hl : lv_has ls 18 [(0, .ref (ad 0)), (1, .int x), (2, .int y), (3, .int v), (4, .int u)] := hl
  have hS : va_S (fA ad 5) s.heap s.heap [] := va_S.rf
  refine lv_aload_n E.1 E.2.1 dX1_group_0 rfl (lv_at hl 0 rfl) ?_
  refine lv_iload_n E.1 E.2.1 dX1_group_1 rfl (lv_at hl 1 rfl) ?_
  refine cS_i E (As := [.int x]) (rest := [.ref (ad 0)]) (cR_isColumn l x) kR_30 rfl rfl ⟨Nat.le_of_ble_eq_true rfl, Nat.le_of_ble_eq_true rfl⟩ rfl hl.1 rfl (Nat.le_of_ble_eq_true rfl) dX1_group_2 ⟨Nat.zero_le _, Nat.zero_le _⟩ ?_
  refine tpi (y := bI false) (congrArg bI hx) ?_
  refine b_if_eq (tgt := 25) E dX1_group_5 rfl (fun _ => ?_) (fun h => Bool.noConfusion h)
  refine lv_iconst (v := nI 1) E.1 E.2.1 dX1_group_25 rfl ?_
  refine lv_goto (tgt := 47) E.1 E.2.1 dX1_group_26 rfl ?_
  refine n_put E inR tyR1 tyR1_ok nmR1 hK hP (dW hN rfl) hS 0 rfl rfl 0 (by decide) flR_23 rfl rfl (tyR1_ok 0 (by decide)) (Nat.le_of_ble_eq_true rfl) dX1_group_47 (fun H locs hP hS => ?_)
  have hP : va_P D c2 (wR ad ca T n kc ko kv k 1) H := hP
  refine lv_aload_n E.1 E.2.1 dX1_group_50 rfl (lv_at hl 0 rfl) ?_
  refine n_get E inR hK hP 0 rfl rfl 0 (by decide) flR_23 rfl rfl dX1_group_51 ?_
  refine n_if_le (tgt := 59) E dX1_group_54 rfl (by decide) (fun h => absurd h (by decide)) (fun _ => ?_)
  refine lv_lconst (v := 0) E.1 E.2.1 dX1_group_57 rfl ?_
  exact e_wl E hr hlk hS () trivial hP dX1_group_58
set_option maxHeartbeats 4000000 in
set_option maxRecDepth 100000 in
theorem cR_group1o (l : Launch) (D : va_G) (ad : Nat → Nat) (ca : Nat → ClassId) (T : Nat → Nat → Int64) (n : Nat) (kc ko : Nat → Nat) (kv : Nat → Int64) (k cd : Nat) (c : Nat) (y v u : Int32) (hN : inj ad 5) (hc : c < 4) (hu : isC u = false) : Met l yX1_group (wA yX1_group cX1_group 18 (some .long)) (rN 4) (va_Pc [.ref (ad 0), .int (nI c), .int y, .int v, .int u] (pW D c2 (tR ca) (wR ad ca T n kc ko kv k cd))) (qL (fun z (_ : Unit) => True) D c2 (fun _ => wR ad ca T n kc ko kv k 1) (fA ad 5)) 0 0 (fA ad 5) := by
  refine met_of RX1 rfl (by decide) (Nat.le_of_ble_eq_true rfl) (fun p e s m below meth cd0 ls E hr hlk _ hB hl => ?_)
  obtain ⟨hP, hK⟩ := hB
  have hl : lv_has ls 18 [(0, .ref (ad 0)), (1, .int (nI c)), (2, .int y), (3, .int v), (4, .int u)] := hl
  have hS : va_S (fA ad 5) s.heap s.heap [] := va_S.rf
  refine lv_aload_n E.1 E.2.1 dX1_group_0 rfl (lv_at hl 0 rfl) ?_
  refine lv_iload_n E.1 E.2.1 dX1_group_1 rfl (lv_at hl 1 rfl) ?_
  refine cS_i E (As := [.int (nI c)]) (rest := [.ref (ad 0)]) (cR_isColumn l (nI c)) kR_30 rfl rfl ⟨Nat.le_of_ble_eq_true rfl, Nat.le_of_ble_eq_true rfl⟩ rfl hl.1 rfl (Nat.le_of_ble_eq_true rfl) dX1_group_2 ⟨Nat.zero_le _, Nat.zero_le _⟩ ?_
  refine tpi (y := bI true) (congrArg bI (isC_n (by omega))) ?_
  refine b_if_eq (tgt := 25) E dX1_group_5 rfl (fun h => Bool.noConfusion h) (fun _ => ?_)
  refine lv_iload E.1 E.2.1 dX1_group_8 (lv_at hl 4 rfl) ?_
  refine cS_i E (As := [.int u]) (rest := [.ref (ad 0)]) (cR_isColumn l u) kR_30 rfl rfl ⟨Nat.le_of_ble_eq_true rfl, Nat.le_of_ble_eq_true rfl⟩ rfl hl.1 rfl (Nat.le_of_ble_eq_true rfl) dX1_group_10 ⟨Nat.zero_le _, Nat.zero_le _⟩ ?_
  refine tpi (y := bI false) (congrArg bI hu) ?_
  refine b_if_eq (tgt := 25) E dX1_group_13 rfl (fun _ => ?_) (fun h => Bool.noConfusion h)
  refine lv_iconst (v := nI 1) E.1 E.2.1 dX1_group_25 rfl ?_
  refine lv_goto (tgt := 47) E.1 E.2.1 dX1_group_26 rfl ?_
  refine n_put E inR tyR1 tyR1_ok nmR1 hK hP (dW hN rfl) hS 0 rfl rfl 0 (by decide) flR_23 rfl rfl (tyR1_ok 0 (by decide)) (Nat.le_of_ble_eq_true rfl) dX1_group_47 (fun H locs hP hS => ?_)
  have hP : va_P D c2 (wR ad ca T n kc ko kv k 1) H := hP
  refine lv_aload_n E.1 E.2.1 dX1_group_50 rfl (lv_at hl 0 rfl) ?_
  refine n_get E inR hK hP 0 rfl rfl 0 (by decide) flR_23 rfl rfl dX1_group_51 ?_
  refine n_if_le (tgt := 59) E dX1_group_54 rfl (by decide) (fun h => absurd h (by decide)) (fun _ => ?_)
  refine lv_lconst (v := 0) E.1 E.2.1 dX1_group_57 rfl ?_
  exact e_wl E hr hlk hS () trivial hP dX1_group_58
set_option maxHeartbeats 4000000 in
set_option maxRecDepth 100000 in
theorem cR_group1w (l : Launch) (D : va_G) (ad : Nat → Nat) (ca : Nat → ClassId) (T : Nat → Nat → Int64) (n : Nat) (kc ko : Nat → Nat) (kv : Nat → Int64) (k cd : Nat) (c o : Nat) (y v : Int32) (hN : inj ad 5) (hc : c < 4) (ho : o < 4) (hv : v < 0 ∨ nI 4 < v) : Met l yX1_group (wA yX1_group cX1_group 18 (some .long)) (rN 4) (va_Pc [.ref (ad 0), .int (nI c), .int y, .int v, .int (nI o)] (pW D c2 (tR ca) (wR ad ca T n kc ko kv k cd))) (qL (fun z (_ : Unit) => True) D c2 (fun _ => wR ad ca T n kc ko kv k 1) (fA ad 5)) 0 0 (fA ad 5) := by
  refine met_of RX1 rfl (by decide) (Nat.le_of_ble_eq_true rfl) (fun p e s m below meth cd0 ls E hr hlk _ hB hl => ?_)
  obtain ⟨hP, hK⟩ := hB
  have hl : lv_has ls 18 [(0, .ref (ad 0)), (1, .int (nI c)), (2, .int y), (3, .int v), (4, .int (nI o))] := hl
  have hS : va_S (fA ad 5) s.heap s.heap [] := va_S.rf
  refine lv_aload_n E.1 E.2.1 dX1_group_0 rfl (lv_at hl 0 rfl) ?_
  refine lv_iload_n E.1 E.2.1 dX1_group_1 rfl (lv_at hl 1 rfl) ?_
  refine cS_i E (As := [.int (nI c)]) (rest := [.ref (ad 0)]) (cR_isColumn l (nI c)) kR_30 rfl rfl ⟨Nat.le_of_ble_eq_true rfl, Nat.le_of_ble_eq_true rfl⟩ rfl hl.1 rfl (Nat.le_of_ble_eq_true rfl) dX1_group_2 ⟨Nat.zero_le _, Nat.zero_le _⟩ ?_
  refine tpi (y := bI true) (congrArg bI (isC_n (by omega))) ?_
  refine b_if_eq (tgt := 25) E dX1_group_5 rfl (fun h => Bool.noConfusion h) (fun _ => ?_)
  refine lv_iload E.1 E.2.1 dX1_group_8 (lv_at hl 4 rfl) ?_
  refine cS_i E (As := [.int (nI o)]) (rest := [.ref (ad 0)]) (cR_isColumn l (nI o)) kR_30 rfl rfl ⟨Nat.le_of_ble_eq_true rfl, Nat.le_of_ble_eq_true rfl⟩ rfl hl.1 rfl (Nat.le_of_ble_eq_true rfl) dX1_group_10 ⟨Nat.zero_le _, Nat.zero_le _⟩ ?_
  refine tpi (y := bI true) (congrArg bI (isC_n (by omega))) ?_
  refine b_if_eq (tgt := 25) E dX1_group_13 rfl (fun h => Bool.noConfusion h) (fun _ => ?_)
  refine lv_iload_n E.1 E.2.1 dX1_group_16 rfl (lv_at hl 3 rfl) ?_
  refine lv_if_lt (tgt := 25) E.1 E.2.1 dX1_group_17 rfl (fun h17 => ?_) (fun h17 => ?_)
  · skip
    refine lv_iconst (v := nI 1) E.1 E.2.1 dX1_group_25 rfl ?_
    refine lv_goto (tgt := 47) E.1 E.2.1 dX1_group_26 rfl ?_
    refine n_put E inR tyR1 tyR1_ok nmR1 hK hP (dW hN rfl) hS 0 rfl rfl 0 (by decide) flR_23 rfl rfl (tyR1_ok 0 (by decide)) (Nat.le_of_ble_eq_true rfl) dX1_group_47 (fun H locs hP hS => ?_)
    have hP : va_P D c2 (wR ad ca T n kc ko kv k 1) H := hP
    refine lv_aload_n E.1 E.2.1 dX1_group_50 rfl (lv_at hl 0 rfl) ?_
    refine n_get E inR hK hP 0 rfl rfl 0 (by decide) flR_23 rfl rfl dX1_group_51 ?_
    refine n_if_le (tgt := 59) E dX1_group_54 rfl (by decide) (fun h => absurd h (by decide)) (fun _ => ?_)
    refine lv_lconst (v := 0) E.1 E.2.1 dX1_group_57 rfl ?_
    exact e_wl E hr hlk hS () trivial hP dX1_group_58
  · skip
    refine lv_iload_n E.1 E.2.1 dX1_group_20 rfl (lv_at hl 3 rfl) ?_
    refine lv_iconst (v := nI 4) E.1 E.2.1 dX1_group_21 rfl ?_
    refine lv_icmp_le (tgt := 29) E.1 E.2.1 dX1_group_22 rfl (fun h22 => ?_) (fun h22 => ?_)
    · skip
      exact (bad_le hv h17 h22).elim
    · skip
      refine lv_iconst (v := nI 1) E.1 E.2.1 dX1_group_25 rfl ?_
      refine lv_goto (tgt := 47) E.1 E.2.1 dX1_group_26 rfl ?_
      refine n_put E inR tyR1 tyR1_ok nmR1 hK hP (dW hN rfl) hS 0 rfl rfl 0 (by decide) flR_23 rfl rfl (tyR1_ok 0 (by decide)) (Nat.le_of_ble_eq_true rfl) dX1_group_47 (fun H locs hP hS => ?_)
      have hP : va_P D c2 (wR ad ca T n kc ko kv k 1) H := hP
      refine lv_aload_n E.1 E.2.1 dX1_group_50 rfl (lv_at hl 0 rfl) ?_
      refine n_get E inR hK hP 0 rfl rfl 0 (by decide) flR_23 rfl rfl dX1_group_51 ?_
      refine n_if_le (tgt := 59) E dX1_group_54 rfl (by decide) (fun h => absurd h (by decide)) (fun _ => ?_)
      refine lv_lconst (v := 0) E.1 E.2.1 dX1_group_57 rfl ?_
      exact e_wl E hr hlk hS () trivial hP dX1_group_58
set_option maxHeartbeats 4000000 in
set_option maxRecDepth 100000 in
theorem cR_group2 (l : Launch) (D : va_G) (ad : Nat → Nat) (ca : Nat → ClassId) (T : Nat → Nat → Int64) (n : Nat) (kc ko : Nat → Nat) (kv : Nat → Int64) (k cd : Nat) (c o w : Nat) (y : Int32) (hN : inj ad 5) (hIK : iK kc ko k) (hn128 : n ≤ 128) (hc : c < 4) (ho : o < 4) (hw : w < 5) (hy : y < 0 ∨ nI (ct (isF (ch T kc ko kv k) T c) n) ≤ y) : Met l yX1_group (wA yX1_group cX1_group 18 (some .long)) (rN 4) (va_Pc [.ref (ad 0), .int (nI c), .int y, .int (nI w), .int (nI o)] (pW D c2 (tR ca) (wR ad ca T n kc ko kv k cd))) (qL (fun z (_ : Unit) => True) D c2 (fun _ => wR ad ca T n kc ko kv k 2) (fA ad 5)) 0 0 (fA ad 5) := by
  refine met_of RX1 rfl (by decide) (Nat.le_of_ble_eq_true rfl) (fun p e s m below meth cd0 ls E hr hlk _ hB hl => ?_)
  obtain ⟨hP, hK⟩ := hB
  have hl : lv_has ls 18 [(0, .ref (ad 0)), (1, .int (nI c)), (2, .int y), (3, .int (nI w)), (4, .int (nI o))] := hl
  have hS : va_S (fA ad 5) s.heap s.heap [] := va_S.rf
  refine lv_aload_n E.1 E.2.1 dX1_group_0 rfl (lv_at hl 0 rfl) ?_
  refine lv_iload_n E.1 E.2.1 dX1_group_1 rfl (lv_at hl 1 rfl) ?_
  refine cS_i E (As := [.int (nI c)]) (rest := [.ref (ad 0)]) (cR_isColumn l (nI c)) kR_30 rfl rfl ⟨Nat.le_of_ble_eq_true rfl, Nat.le_of_ble_eq_true rfl⟩ rfl hl.1 rfl (Nat.le_of_ble_eq_true rfl) dX1_group_2 ⟨Nat.zero_le _, Nat.zero_le _⟩ ?_
  refine tpi (y := bI true) (congrArg bI (isC_n (by omega))) ?_
  refine b_if_eq (tgt := 25) E dX1_group_5 rfl (fun h => Bool.noConfusion h) (fun _ => ?_)
  refine lv_iload E.1 E.2.1 dX1_group_8 (lv_at hl 4 rfl) ?_
  refine cS_i E (As := [.int (nI o)]) (rest := [.ref (ad 0)]) (cR_isColumn l (nI o)) kR_30 rfl rfl ⟨Nat.le_of_ble_eq_true rfl, Nat.le_of_ble_eq_true rfl⟩ rfl hl.1 rfl (Nat.le_of_ble_eq_true rfl) dX1_group_10 ⟨Nat.zero_le _, Nat.zero_le _⟩ ?_
  refine tpi (y := bI true) (congrArg bI (isC_n (by omega))) ?_
  refine b_if_eq (tgt := 25) E dX1_group_13 rfl (fun h => Bool.noConfusion h) (fun _ => ?_)
  refine lv_iload_n E.1 E.2.1 dX1_group_16 rfl (lv_at hl 3 rfl) ?_
  refine n_if_lt (tgt := 25) E dX1_group_17 rfl (by omega) ?_
  refine lv_iload_n E.1 E.2.1 dX1_group_20 rfl (lv_at hl 3 rfl) ?_
  refine lv_iconst (v := nI 4) E.1 E.2.1 dX1_group_21 rfl ?_
  refine n_icmp_le (tgt := 29) E dX1_group_22 rfl (by omega) (by omega) (fun h22 => ?_) (fun h22 => ?_)
  · skip
    refine lv_iload_n E.1 E.2.1 dX1_group_29 rfl (lv_at hl 2 rfl) ?_
    refine lv_if_lt (tgt := 42) E.1 E.2.1 dX1_group_30 rfl (fun h30 => ?_) (fun h30 => ?_)
    · skip
      refine lv_iconst (v := nI 2) E.1 E.2.1 dX1_group_42 rfl ?_
      refine lv_goto (tgt := 47) E.1 E.2.1 dX1_group_43 rfl ?_
      refine n_put E inR tyR1 tyR1_ok nmR1 hK hP (dW hN rfl) hS 0 rfl rfl 0 (by decide) flR_23 rfl rfl (tyR1_ok 0 (by decide)) (Nat.le_of_ble_eq_true rfl) dX1_group_47 (fun H locs hP hS => ?_)
      have hP : va_P D c2 (wR ad ca T n kc ko kv k 2) H := hP
      refine lv_aload_n E.1 E.2.1 dX1_group_50 rfl (lv_at hl 0 rfl) ?_
      refine n_get E inR hK hP 0 rfl rfl 0 (by decide) flR_23 rfl rfl dX1_group_51 ?_
      refine n_if_le (tgt := 59) E dX1_group_54 rfl (by decide) (fun h => absurd h (by decide)) (fun _ => ?_)
      refine lv_lconst (v := 0) E.1 E.2.1 dX1_group_57 rfl ?_
      exact e_wl E hr hlk hS () trivial hP dX1_group_58
    · skip
      refine lv_iload_n E.1 E.2.1 dX1_group_33 rfl (lv_at hl 2 rfl) ?_
      refine lv_aload_n E.1 E.2.1 dX1_group_34 rfl (lv_at hl 0 rfl) ?_
      refine lv_iload_n E.1 E.2.1 dX1_group_35 rfl (lv_at hl 1 rfl) ?_
      refine cV_i E (As := [.int (nI c)]) (rest := [.int y, .ref (ad 0)]) (cR_countGroups l D ad ca T n kc ko kv k cd c hIK hn128 (by omega)) kR_82 hK hP 0 rfl rfl rfl rfl ⟨Nat.le_of_ble_eq_true rfl, Nat.le_of_ble_eq_true rfl⟩ rfl hl.1 rfl (Nat.le_of_ble_eq_true rfl) dX1_group_36 ⟨Nat.zero_le _, Nat.zero_le _⟩ ?_
      refine lv_icmp_lt (tgt := 46) E.1 E.2.1 dX1_group_39 rfl (fun h39 => ?_) (fun h39 => ?_)
      · skip
        exact (bad_no hy h30 h39).elim
      · skip
        refine lv_iconst (v := nI 2) E.1 E.2.1 dX1_group_42 rfl ?_
        refine lv_goto (tgt := 47) E.1 E.2.1 dX1_group_43 rfl ?_
        refine n_put E inR tyR1 tyR1_ok nmR1 hK hP (dW hN rfl) hS 0 rfl rfl 0 (by decide) flR_23 rfl rfl (tyR1_ok 0 (by decide)) (Nat.le_of_ble_eq_true rfl) dX1_group_47 (fun H locs hP hS => ?_)
        have hP : va_P D c2 (wR ad ca T n kc ko kv k 2) H := hP
        refine lv_aload_n E.1 E.2.1 dX1_group_50 rfl (lv_at hl 0 rfl) ?_
        refine n_get E inR hK hP 0 rfl rfl 0 (by decide) flR_23 rfl rfl dX1_group_51 ?_
        refine n_if_le (tgt := 59) E dX1_group_54 rfl (by decide) (fun h => absurd h (by decide)) (fun _ => ?_)
        refine lv_lconst (v := 0) E.1 E.2.1 dX1_group_57 rfl ?_
        exact e_wl E hr hlk hS () trivial hP dX1_group_58
  · skip
    exfalso; omega
set_option maxHeartbeats 4000000 in
set_option maxRecDepth 100000 in
theorem cR_pairs (l : Launch) (D : va_G) (ad : Nat → Nat) (ca : Nat → ClassId) (T : Nat → Nat → Int64) (n : Nat) (kc ko : Nat → Nat) (kv : Nat → Int64) (k cd : Nat) (c o : Nat) (hN : inj ad 5) (hIK : iK kc ko k) (hn128 : n ≤ 128) (hc : c < 4) (ho : o < 4) : Met l yX1_pairs (wA yX1_pairs cX1_pairs 6 (some .int)) (rN 2) (va_Pc [.ref (ad 0), .int (nI c), .int (nI o)] (pW D c2 (tR ca) (wR ad ca T n kc ko kv k cd))) (qI (fun z (_ : Unit) => z = nI (sn (fun t => if (ch T kc ko kv k) t then ct (fun u => (ch T kc ko kv k) u && decide (T u c = T t o)) t else 0) n)) D c2 (fun _ => wR ad ca T n kc ko kv k 0) (fA ad 5)) 0 0 (fA ad 5) := by
  refine met_of RX1 rfl (by decide) (Nat.le_of_ble_eq_true rfl) (fun p e s m below meth cd0 ls E hr hlk _ hB hl => ?_)
  obtain ⟨hP, hK⟩ := hB
  have hl : lv_has ls 6 [(0, .ref (ad 0)), (1, .int (nI c)), (2, .int (nI o))] := hl
  have hS : va_S (fA ad 5) s.heap s.heap [] := va_S.rf
  refine lv_aload_n E.1 E.2.1 dX1_pairs_0 rfl (lv_at hl 0 rfl) ?_
  refine lv_iload_n E.1 E.2.1 dX1_pairs_1 rfl (lv_at hl 1 rfl) ?_
  refine cS_i E (As := [.int (nI c)]) (rest := [.ref (ad 0)]) (cR_isColumn l (nI c)) kR_30 rfl rfl ⟨Nat.le_of_ble_eq_true rfl, Nat.le_of_ble_eq_true rfl⟩ rfl hl.1 rfl (Nat.le_of_ble_eq_true rfl) dX1_pairs_2 ⟨Nat.zero_le _, Nat.zero_le _⟩ ?_
  refine tpi (y := bI true) (congrArg bI (isC_n (by omega))) ?_
  refine b_if_eq (tgt := 19) E dX1_pairs_5 rfl (fun h => Bool.noConfusion h) (fun _ => ?_)
  refine lv_iload_n E.1 E.2.1 dX1_pairs_8 rfl (lv_at hl 2 rfl) ?_
  refine cS_i E (As := [.int (nI o)]) (rest := [.ref (ad 0)]) (cR_isColumn l (nI o)) kR_30 rfl rfl ⟨Nat.le_of_ble_eq_true rfl, Nat.le_of_ble_eq_true rfl⟩ rfl hl.1 rfl (Nat.le_of_ble_eq_true rfl) dX1_pairs_9 ⟨Nat.zero_le _, Nat.zero_le _⟩ ?_
  refine tpi (y := bI true) (congrArg bI (isC_n (by omega))) ?_
  refine b_if_eq (tgt := 19) E dX1_pairs_12 rfl (fun h => Bool.noConfusion h) (fun _ => ?_)
  refine lv_iconst (v := nI 0) E.1 E.2.1 dX1_pairs_15 rfl ?_
  refine lv_goto (tgt := 20) E.1 E.2.1 dX1_pairs_16 rfl ?_
  refine n_put E inR tyR1 tyR1_ok nmR1 hK hP (dW hN rfl) hS 0 rfl rfl 0 (by decide) flR_23 rfl rfl (tyR1_ok 0 (by decide)) (Nat.le_of_ble_eq_true rfl) dX1_pairs_20 (fun H locs hP hS => ?_)
  have hP : va_P D c2 (wR ad ca T n kc ko kv k 0) H := hP
  refine lv_iconst (v := nI 0) E.1 E.2.1 dX1_pairs_23 rfl ?_
  refine lv_istore_n (lv' := [(3, .int (nI 0)), (0, .ref (ad 0)), (1, .int (nI c)), (2, .int (nI o))]) E.1 E.2.1 dX1_pairs_24 rfl hl (by decide) rfl (fun ls hl => ?_)
  refine lv_iconst (v := nI 0) E.1 E.2.1 dX1_pairs_25 rfl ?_
  refine lv_istore (lv' := [(4, .int (nI 0)), (3, .int (nI 0)), (0, .ref (ad 0)), (1, .int (nI c)), (2, .int (nI o))]) E.1 E.2.1 dX1_pairs_26 hl (by decide) rfl (fun ls hl => ?_)
  refine w_lp1 (fun (t : Nat) => t ≤ n) (fun (t : Nat) => n - t) (fun (t : Nat) => [(3, .int (nI (sn (fun t => if (ch T kc ko kv k) t then ct (fun u => (ch T kc ko kv k) u && decide (T u c = T t o)) t else 0) t))), (4, .int (nI t)), (0, .ref (ad 0)), (1, .int (nI c)), (2, .int (nI o))]) 0 (Nat.zero_le _) (lv_sub hl [1, 0, 2, 3, 4] rfl) (fun t ls hI hl ih28 => ?_)
  have hl : lv_has ls 6 [(3, .int (nI (sn (fun t => if (ch T kc ko kv k) t then ct (fun u => (ch T kc ko kv k) u && decide (T u c = T t o)) t else 0) t))), (4, .int (nI t)), (0, .ref (ad 0)), (1, .int (nI c)), (2, .int (nI o))] := hl
  have hI28 := hI
  refine lv_iload E.1 E.2.1 dX1_pairs_28 (lv_at hl 1 rfl) ?_
  refine lv_aload_n E.1 E.2.1 dX1_pairs_30 rfl (lv_at hl 2 rfl) ?_
  refine n_get E inR hK hP 0 rfl rfl 1 (by decide) flR_27 rfl rfl dX1_pairs_31 ?_
  refine n_icmp_ge (tgt := 118) E dX1_pairs_34 rfl (by omega) (by omega) (fun h34 => ?_) (fun h34 => ?_)
  · skip
    refine lv_iload_n E.1 E.2.1 dX1_pairs_118 rfl (lv_at hl 0 rfl) ?_
    exact e_wi E hr hlk hS () (by rw [show n = t by omega]) hP dX1_pairs_119
  · skip
    refine lv_aload_n E.1 E.2.1 dX1_pairs_37 rfl (lv_at hl 2 rfl) ?_
    refine n_get E inR hK hP 0 rfl rfl 0 (by decide) flR_23 rfl rfl dX1_pairs_38 ?_
    refine n_if_ne (tgt := 118) E dX1_pairs_41 rfl (by decide) (fun h => absurd h (by decide)) (fun _ => ?_)
    refine lv_iconst (v := nI 0) E.1 E.2.1 dX1_pairs_44 rfl ?_
    refine lv_istore (lv' := [(5, .int (nI 0)), (3, .int (nI (sn (fun t => if (ch T kc ko kv k) t then ct (fun u => (ch T kc ko kv k) u && decide (T u c = T t o)) t else 0) t))), (4, .int (nI t)), (0, .ref (ad 0)), (1, .int (nI c)), (2, .int (nI o))]) E.1 E.2.1 dX1_pairs_45 hl (by decide) rfl (fun ls hl => ?_)
    refine w_lp1 (fun (u : Nat) => u ≤ t ∧ ((ch T kc ko kv k) t = true ∨ u = 0)) (fun (u : Nat) => t - u) (fun (u : Nat) => [(5, .int (nI u)), (3, .int (nI (sn (fun t => if (ch T kc ko kv k) t then ct (fun u => (ch T kc ko kv k) u && decide (T u c = T t o)) t else 0) t + ct (fun u => (ch T kc ko kv k) u && decide (T u c = T t o)) u))), (4, .int (nI t)), (0, .ref (ad 0)), (1, .int (nI c)), (2, .int (nI o))]) 0 (⟨Nat.zero_le _, Or.inr rfl⟩) (lv_sub hl [0, 1, 2, 3, 4, 5] rfl) (fun u ls hI hl ih47 => ?_)
    have hl : lv_has ls 6 [(5, .int (nI u)), (3, .int (nI (sn (fun t => if (ch T kc ko kv k) t then ct (fun u => (ch T kc ko kv k) u && decide (T u c = T t o)) t else 0) t + ct (fun u => (ch T kc ko kv k) u && decide (T u c = T t o)) u))), (4, .int (nI t)), (0, .ref (ad 0)), (1, .int (nI c)), (2, .int (nI o))] := hl
    obtain ⟨hu1, hu2⟩ := hI
    refine lv_iload E.1 E.2.1 dX1_pairs_47 (lv_at hl 0 rfl) ?_
    refine lv_iload E.1 E.2.1 dX1_pairs_49 (lv_at hl 2 rfl) ?_
    refine n_icmp_ge (tgt := 112) E dX1_pairs_51 rfl (by omega) (by omega) (fun h51 => ?_) (fun h51 => ?_)
    · skip
      refine lv_iinc (k := 2) (v := nI (t + 1)) (lv' := [(4, .int (nI (t + 1))), (5, .int (nI u)), (3, .int (nI (sn (fun t => if (ch T kc ko kv k) t then ct (fun u => (ch T kc ko kv k) u && decide (T u c = T t o)) t else 0) t + ct (fun u => (ch T kc ko kv k) u && decide (T u c = T t o)) u))), (0, .ref (ad 0)), (1, .int (nI c)), (2, .int (nI o))]) E.1 E.2.1 dX1_pairs_112 hl rfl (inc1 _) (by decide) rfl (fun ls hl => ?_)
      refine lv_goto (tgt := 28) E.1 E.2.1 dX1_pairs_115 rfl ?_
      rw [show sn (fun t => if (ch T kc ko kv k) t then ct (fun u => (ch T kc ko kv k) u && decide (T u c = T t o)) t else 0) t + ct (fun u => (ch T kc ko kv k) u && decide (T u c = T t o)) u = sn (fun t => if (ch T kc ko kv k) t then ct (fun u => (ch T kc ko kv k) u && decide (T u c = T t o)) t else 0) (t + 1) from pr_y hu2 (by omega)] at hl
      exact ih28 (t + 1) _ (by omega) (by omega) (lv_sub hl [2, 0, 3, 4, 5] rfl)
    · skip
      refine lv_aload_n E.1 E.2.1 dX1_pairs_54 rfl (lv_at hl 3 rfl) ?_
      refine lv_iload E.1 E.2.1 dX1_pairs_55 (lv_at hl 2 rfl) ?_
      refine cV_i E (As := [.int (nI t)]) (rest := []) (cR_isChosen l D ad ca T n kc ko kv k 0 t hIK (by omega)) kR_41 hK hP 0 rfl rfl rfl rfl ⟨Nat.le_of_ble_eq_true rfl, Nat.le_of_ble_eq_true rfl⟩ rfl hl.1 rfl (Nat.le_of_ble_eq_true rfl) dX1_pairs_57 ⟨Nat.zero_le _, Nat.zero_le _⟩ ?_
      refine b_if_eq (tgt := 112) E dX1_pairs_60 rfl (fun h60 => ?_) (fun h60 => ?_)
      · skip
        refine lv_iinc (k := 2) (v := nI (t + 1)) (lv' := [(4, .int (nI (t + 1))), (5, .int (nI u)), (3, .int (nI (sn (fun t => if (ch T kc ko kv k) t then ct (fun u => (ch T kc ko kv k) u && decide (T u c = T t o)) t else 0) t + ct (fun u => (ch T kc ko kv k) u && decide (T u c = T t o)) u))), (0, .ref (ad 0)), (1, .int (nI c)), (2, .int (nI o))]) E.1 E.2.1 dX1_pairs_112 hl rfl (inc1 _) (by decide) rfl (fun ls hl => ?_)
        refine lv_goto (tgt := 28) E.1 E.2.1 dX1_pairs_115 rfl ?_
        have e9 : u = 0 := hu2.resolve_left (by rw [h60]; decide)
        subst e9
        rw [show sn (fun t => if (ch T kc ko kv k) t then ct (fun u => (ch T kc ko kv k) u && decide (T u c = T t o)) t else 0) t + ct (fun u => (ch T kc ko kv k) u && decide (T u c = T t o)) 0 = sn (fun t => if (ch T kc ko kv k) t then ct (fun u => (ch T kc ko kv k) u && decide (T u c = T t o)) t else 0) (t + 1) from pr_n h60] at hl
        exact ih28 (t + 1) _ (by omega) (by omega) (lv_sub hl [2, 0, 3, 4, 5] rfl)
      · skip
        refine lv_iload_n E.1 E.2.1 dX1_pairs_63 rfl (lv_at hl 1 rfl) ?_
        refine lv_aload_n E.1 E.2.1 dX1_pairs_64 rfl (lv_at hl 3 rfl) ?_
        refine lv_iload E.1 E.2.1 dX1_pairs_65 (lv_at hl 0 rfl) ?_
        refine cV_i E (As := [.int (nI u)]) (rest := [.int (nI (sn (fun t => if (ch T kc ko kv k) t then ct (fun u => (ch T kc ko kv k) u && decide (T u c = T t o)) t else 0) t + ct (fun u => (ch T kc ko kv k) u && decide (T u c = T t o)) u))]) (cR_isChosen l D ad ca T n kc ko kv k 0 u hIK (by omega)) kR_41 hK hP 0 rfl rfl rfl rfl ⟨Nat.le_of_ble_eq_true rfl, Nat.le_of_ble_eq_true rfl⟩ rfl hl.1 rfl (Nat.le_of_ble_eq_true rfl) dX1_pairs_67 ⟨Nat.zero_le _, Nat.zero_le _⟩ ?_
        refine b_if_eq (tgt := 103) E dX1_pairs_70 rfl (fun h70 => ?_) (fun h70 => ?_)
        · skip
          refine lv_iconst (v := nI 0) E.1 E.2.1 dX1_pairs_103 rfl ?_
          refine n_iadd E dX1_pairs_104 ?_
          refine lv_istore_n (lv' := [(3, .int (nI (sn (fun t => if (ch T kc ko kv k) t then ct (fun u => (ch T kc ko kv k) u && decide (T u c = T t o)) t else 0) t + ct (fun u => (ch T kc ko kv k) u && decide (T u c = T t o)) u + 0))), (5, .int (nI u)), (4, .int (nI t)), (0, .ref (ad 0)), (1, .int (nI c)), (2, .int (nI o))]) E.1 E.2.1 dX1_pairs_105 rfl hl (by decide) rfl (fun ls hl => ?_)
          refine lv_iinc (k := 1) (v := nI (u + 1)) (lv' := [(5, .int (nI (u + 1))), (3, .int (nI (sn (fun t => if (ch T kc ko kv k) t then ct (fun u => (ch T kc ko kv k) u && decide (T u c = T t o)) t else 0) t + ct (fun u => (ch T kc ko kv k) u && decide (T u c = T t o)) u + 0))), (4, .int (nI t)), (0, .ref (ad 0)), (1, .int (nI c)), (2, .int (nI o))]) E.1 E.2.1 dX1_pairs_106 hl rfl (inc1 _) (by decide) rfl (fun ls hl => ?_)
          refine lv_goto (tgt := 47) E.1 E.2.1 dX1_pairs_109 rfl ?_
          rw [← ct_f (p := (fun u => (ch T kc ko kv k) u && decide (T u c = T t o))) (by rw [h70]; rfl)] at hl
          exact ih47 (u + 1) _ (⟨by omega, Or.inl h60⟩) (by omega) (lv_sub hl [0, 1, 2, 3, 4, 5] rfl)
        · skip
          refine lv_aload_n E.1 E.2.1 dX1_pairs_73 rfl (lv_at hl 3 rfl) ?_
          refine n_get E inR hK hP 0 rfl rfl 2 (by decide) flR_7 rfl rfl dX1_pairs_74 ?_
          refine lv_iconst (v := nI 4) E.1 E.2.1 dX1_pairs_77 rfl ?_
          refine lv_iload E.1 E.2.1 dX1_pairs_78 (lv_at hl 0 rfl) ?_
          refine n_imul E dX1_pairs_80 ?_
          refine lv_iload_n E.1 E.2.1 dX1_pairs_81 rfl (lv_at hl 4 rfl) ?_
          refine n_iadd E dX1_pairs_82 ?_
          refine n_rald E hK hP 1 0 rfl rfl u c (by omega) (by omega) (by omega) dX1_pairs_83 ?_
          refine lv_aload_n E.1 E.2.1 dX1_pairs_84 rfl (lv_at hl 3 rfl) ?_
          refine n_get E inR hK hP 0 rfl rfl 2 (by decide) flR_7 rfl rfl dX1_pairs_85 ?_
          refine lv_iconst (v := nI 4) E.1 E.2.1 dX1_pairs_88 rfl ?_
          refine lv_iload E.1 E.2.1 dX1_pairs_89 (lv_at hl 2 rfl) ?_
          refine n_imul E dX1_pairs_91 ?_
          refine lv_iload_n E.1 E.2.1 dX1_pairs_92 rfl (lv_at hl 5 rfl) ?_
          refine n_iadd E dX1_pairs_93 ?_
          refine n_rald E hK hP 1 0 rfl rfl t o (by omega) (by omega) (by omega) dX1_pairs_94 ?_
          refine l_if_ne (tgt := 103) E dX1_pairs_95 dX1_pairs_96 rfl (fun h95 => ?_) (fun h95 => ?_)
          · skip
            refine lv_iconst (v := nI 0) E.1 E.2.1 dX1_pairs_103 rfl ?_
            refine n_iadd E dX1_pairs_104 ?_
            refine lv_istore_n (lv' := [(3, .int (nI (sn (fun t => if (ch T kc ko kv k) t then ct (fun u => (ch T kc ko kv k) u && decide (T u c = T t o)) t else 0) t + ct (fun u => (ch T kc ko kv k) u && decide (T u c = T t o)) u + 0))), (5, .int (nI u)), (4, .int (nI t)), (0, .ref (ad 0)), (1, .int (nI c)), (2, .int (nI o))]) E.1 E.2.1 dX1_pairs_105 rfl hl (by decide) rfl (fun ls hl => ?_)
            refine lv_iinc (k := 1) (v := nI (u + 1)) (lv' := [(5, .int (nI (u + 1))), (3, .int (nI (sn (fun t => if (ch T kc ko kv k) t then ct (fun u => (ch T kc ko kv k) u && decide (T u c = T t o)) t else 0) t + ct (fun u => (ch T kc ko kv k) u && decide (T u c = T t o)) u + 0))), (4, .int (nI t)), (0, .ref (ad 0)), (1, .int (nI c)), (2, .int (nI o))]) E.1 E.2.1 dX1_pairs_106 hl rfl (inc1 _) (by decide) rfl (fun ls hl => ?_)
            refine lv_goto (tgt := 47) E.1 E.2.1 dX1_pairs_109 rfl ?_
            rw [← ct_f (p := (fun u => (ch T kc ko kv k) u && decide (T u c = T t o))) (by rw [decide_eq_false h95, Bool.and_false])] at hl
            exact ih47 (u + 1) _ (⟨by omega, Or.inl h60⟩) (by omega) (lv_sub hl [0, 1, 2, 3, 4, 5] rfl)
          · skip
            refine lv_iconst (v := nI 1) E.1 E.2.1 dX1_pairs_99 rfl ?_
            refine lv_goto (tgt := 104) E.1 E.2.1 dX1_pairs_100 rfl ?_
            refine n_iadd E dX1_pairs_104 ?_
            refine lv_istore_n (lv' := [(3, .int (nI (sn (fun t => if (ch T kc ko kv k) t then ct (fun u => (ch T kc ko kv k) u && decide (T u c = T t o)) t else 0) t + ct (fun u => (ch T kc ko kv k) u && decide (T u c = T t o)) u + 1))), (5, .int (nI u)), (4, .int (nI t)), (0, .ref (ad 0)), (1, .int (nI c)), (2, .int (nI o))]) E.1 E.2.1 dX1_pairs_105 rfl hl (by decide) rfl (fun ls hl => ?_)
            refine lv_iinc (k := 1) (v := nI (u + 1)) (lv' := [(5, .int (nI (u + 1))), (3, .int (nI (sn (fun t => if (ch T kc ko kv k) t then ct (fun u => (ch T kc ko kv k) u && decide (T u c = T t o)) t else 0) t + ct (fun u => (ch T kc ko kv k) u && decide (T u c = T t o)) u + 1))), (4, .int (nI t)), (0, .ref (ad 0)), (1, .int (nI c)), (2, .int (nI o))]) E.1 E.2.1 dX1_pairs_106 hl rfl (inc1 _) (by decide) rfl (fun ls hl => ?_)
            refine lv_goto (tgt := 47) E.1 E.2.1 dX1_pairs_109 rfl ?_
            rw [Nat.add_assoc, ← ct_t (p := (fun u => (ch T kc ko kv k) u && decide (T u c = T t o))) (by rw [h70, decide_eq_true h95]; rfl)] at hl
            exact ih47 (u + 1) _ (⟨by omega, Or.inl h60⟩) (by omega) (lv_sub hl [0, 1, 2, 3, 4, 5] rfl)
set_option maxHeartbeats 4000000 in
set_option maxRecDepth 100000 in
theorem cR_pairs1 (l : Launch) (D : va_G) (ad : Nat → Nat) (ca : Nat → ClassId) (T : Nat → Nat → Int64) (n : Nat) (kc ko : Nat → Nat) (kv : Nat → Int64) (k cd : Nat) (x y : Int32) (hN : inj ad 5) (hn128 : n ≤ 128) (hx : isC x = false) : Met l yX1_pairs (wA yX1_pairs cX1_pairs 6 (some .int)) (rN 2) (va_Pc [.ref (ad 0), .int x, .int y] (pW D c2 (tR ca) (wR ad ca T n kc ko kv k cd))) (qI (fun z (_ : Unit) => True) D c2 (fun _ => wR ad ca T n kc ko kv k 1) (fA ad 5)) 0 0 (fA ad 5) := by
  refine met_of RX1 rfl (by decide) (Nat.le_of_ble_eq_true rfl) (fun p e s m below meth cd0 ls E hr hlk _ hB hl => ?_)
  obtain ⟨hP, hK⟩ := hB
  have hl : lv_has ls 6 [(0, .ref (ad 0)), (1, .int x), (2, .int y)] := hl
  have hS : va_S (fA ad 5) s.heap s.heap [] := va_S.rf
  refine lv_aload_n E.1 E.2.1 dX1_pairs_0 rfl (lv_at hl 0 rfl) ?_
  refine lv_iload_n E.1 E.2.1 dX1_pairs_1 rfl (lv_at hl 1 rfl) ?_
  refine cS_i E (As := [.int x]) (rest := [.ref (ad 0)]) (cR_isColumn l x) kR_30 rfl rfl ⟨Nat.le_of_ble_eq_true rfl, Nat.le_of_ble_eq_true rfl⟩ rfl hl.1 rfl (Nat.le_of_ble_eq_true rfl) dX1_pairs_2 ⟨Nat.zero_le _, Nat.zero_le _⟩ ?_
  refine tpi (y := bI false) (congrArg bI hx) ?_
  refine b_if_eq (tgt := 19) E dX1_pairs_5 rfl (fun _ => ?_) (fun h => Bool.noConfusion h)
  refine lv_iconst (v := nI 1) E.1 E.2.1 dX1_pairs_19 rfl ?_
  refine n_put E inR tyR1 tyR1_ok nmR1 hK hP (dW hN rfl) hS 0 rfl rfl 0 (by decide) flR_23 rfl rfl (tyR1_ok 0 (by decide)) (Nat.le_of_ble_eq_true rfl) dX1_pairs_20 (fun H locs hP hS => ?_)
  have hP : va_P D c2 (wR ad ca T n kc ko kv k 1) H := hP
  refine lv_iconst (v := nI 0) E.1 E.2.1 dX1_pairs_23 rfl ?_
  refine lv_istore_n (lv' := [(3, .int (nI 0)), (0, .ref (ad 0)), (1, .int x), (2, .int y)]) E.1 E.2.1 dX1_pairs_24 rfl hl (by decide) rfl (fun ls hl => ?_)
  refine lv_iconst (v := nI 0) E.1 E.2.1 dX1_pairs_25 rfl ?_
  refine lv_istore (lv' := [(4, .int (nI 0)), (3, .int (nI 0)), (0, .ref (ad 0)), (1, .int x), (2, .int y)]) E.1 E.2.1 dX1_pairs_26 hl (by decide) rfl (fun ls hl => ?_)
  refine lv_iload E.1 E.2.1 dX1_pairs_28 (lv_at hl 0 rfl) ?_
  refine lv_aload_n E.1 E.2.1 dX1_pairs_30 rfl (lv_at hl 2 rfl) ?_
  refine n_get E inR hK hP 0 rfl rfl 1 (by decide) flR_27 rfl rfl dX1_pairs_31 ?_
  refine n_icmp_ge (tgt := 118) E dX1_pairs_34 rfl (by omega) (by omega) (fun h34 => ?_) (fun h34 => ?_)
  · skip
    refine lv_iload_n E.1 E.2.1 dX1_pairs_118 rfl (lv_at hl 1 rfl) ?_
    exact e_wi E hr hlk hS () trivial hP dX1_pairs_119
  · skip
    refine lv_aload_n E.1 E.2.1 dX1_pairs_37 rfl (lv_at hl 2 rfl) ?_
    refine n_get E inR hK hP 0 rfl rfl 0 (by decide) flR_23 rfl rfl dX1_pairs_38 ?_
    refine n_if_ne (tgt := 118) E dX1_pairs_41 rfl (by decide) (fun _ => ?_) (fun h => absurd h (by decide))
    refine lv_iload_n E.1 E.2.1 dX1_pairs_118 rfl (lv_at hl 1 rfl) ?_
    exact e_wi E hr hlk hS () trivial hP dX1_pairs_119
set_option maxHeartbeats 4000000 in
set_option maxRecDepth 100000 in
theorem cR_pairs1o (l : Launch) (D : va_G) (ad : Nat → Nat) (ca : Nat → ClassId) (T : Nat → Nat → Int64) (n : Nat) (kc ko : Nat → Nat) (kv : Nat → Int64) (k cd : Nat) (c : Nat) (y : Int32) (hN : inj ad 5) (hn128 : n ≤ 128) (hc : c < 4) (hy : isC y = false) : Met l yX1_pairs (wA yX1_pairs cX1_pairs 6 (some .int)) (rN 2) (va_Pc [.ref (ad 0), .int (nI c), .int y] (pW D c2 (tR ca) (wR ad ca T n kc ko kv k cd))) (qI (fun z (_ : Unit) => True) D c2 (fun _ => wR ad ca T n kc ko kv k 1) (fA ad 5)) 0 0 (fA ad 5) := by
  refine met_of RX1 rfl (by decide) (Nat.le_of_ble_eq_true rfl) (fun p e s m below meth cd0 ls E hr hlk _ hB hl => ?_)
  obtain ⟨hP, hK⟩ := hB
  have hl : lv_has ls 6 [(0, .ref (ad 0)), (1, .int (nI c)), (2, .int y)] := hl
  have hS : va_S (fA ad 5) s.heap s.heap [] := va_S.rf
  refine lv_aload_n E.1 E.2.1 dX1_pairs_0 rfl (lv_at hl 0 rfl) ?_
  refine lv_iload_n E.1 E.2.1 dX1_pairs_1 rfl (lv_at hl 1 rfl) ?_
  refine cS_i E (As := [.int (nI c)]) (rest := [.ref (ad 0)]) (cR_isColumn l (nI c)) kR_30 rfl rfl ⟨Nat.le_of_ble_eq_true rfl, Nat.le_of_ble_eq_true rfl⟩ rfl hl.1 rfl (Nat.le_of_ble_eq_true rfl) dX1_pairs_2 ⟨Nat.zero_le _, Nat.zero_le _⟩ ?_
  refine tpi (y := bI true) (congrArg bI (isC_n (by omega))) ?_
  refine b_if_eq (tgt := 19) E dX1_pairs_5 rfl (fun h => Bool.noConfusion h) (fun _ => ?_)
  refine lv_iload_n E.1 E.2.1 dX1_pairs_8 rfl (lv_at hl 2 rfl) ?_
  refine cS_i E (As := [.int y]) (rest := [.ref (ad 0)]) (cR_isColumn l y) kR_30 rfl rfl ⟨Nat.le_of_ble_eq_true rfl, Nat.le_of_ble_eq_true rfl⟩ rfl hl.1 rfl (Nat.le_of_ble_eq_true rfl) dX1_pairs_9 ⟨Nat.zero_le _, Nat.zero_le _⟩ ?_
  refine tpi (y := bI false) (congrArg bI hy) ?_
  refine b_if_eq (tgt := 19) E dX1_pairs_12 rfl (fun _ => ?_) (fun h => Bool.noConfusion h)
  refine lv_iconst (v := nI 1) E.1 E.2.1 dX1_pairs_19 rfl ?_
  refine n_put E inR tyR1 tyR1_ok nmR1 hK hP (dW hN rfl) hS 0 rfl rfl 0 (by decide) flR_23 rfl rfl (tyR1_ok 0 (by decide)) (Nat.le_of_ble_eq_true rfl) dX1_pairs_20 (fun H locs hP hS => ?_)
  have hP : va_P D c2 (wR ad ca T n kc ko kv k 1) H := hP
  refine lv_iconst (v := nI 0) E.1 E.2.1 dX1_pairs_23 rfl ?_
  refine lv_istore_n (lv' := [(3, .int (nI 0)), (0, .ref (ad 0)), (1, .int (nI c)), (2, .int y)]) E.1 E.2.1 dX1_pairs_24 rfl hl (by decide) rfl (fun ls hl => ?_)
  refine lv_iconst (v := nI 0) E.1 E.2.1 dX1_pairs_25 rfl ?_
  refine lv_istore (lv' := [(4, .int (nI 0)), (3, .int (nI 0)), (0, .ref (ad 0)), (1, .int (nI c)), (2, .int y)]) E.1 E.2.1 dX1_pairs_26 hl (by decide) rfl (fun ls hl => ?_)
  refine lv_iload E.1 E.2.1 dX1_pairs_28 (lv_at hl 0 rfl) ?_
  refine lv_aload_n E.1 E.2.1 dX1_pairs_30 rfl (lv_at hl 2 rfl) ?_
  refine n_get E inR hK hP 0 rfl rfl 1 (by decide) flR_27 rfl rfl dX1_pairs_31 ?_
  refine n_icmp_ge (tgt := 118) E dX1_pairs_34 rfl (by omega) (by omega) (fun h34 => ?_) (fun h34 => ?_)
  · skip
    refine lv_iload_n E.1 E.2.1 dX1_pairs_118 rfl (lv_at hl 1 rfl) ?_
    exact e_wi E hr hlk hS () trivial hP dX1_pairs_119
  · skip
    refine lv_aload_n E.1 E.2.1 dX1_pairs_37 rfl (lv_at hl 2 rfl) ?_
    refine n_get E inR hK hP 0 rfl rfl 0 (by decide) flR_23 rfl rfl dX1_pairs_38 ?_
    refine n_if_ne (tgt := 118) E dX1_pairs_41 rfl (by decide) (fun _ => ?_) (fun h => absurd h (by decide))
    refine lv_iload_n E.1 E.2.1 dX1_pairs_118 rfl (lv_at hl 1 rfl) ?_
    exact e_wi E hr hlk hS () trivial hP dX1_pairs_119
set_option maxHeartbeats 4000000 in
set_option maxRecDepth 100000 in
theorem cR_purge (l : Launch) (D : va_G) (ad : Nat → Nat) (ca : Nat → ClassId) (T : Nat → Nat → Int64) (n : Nat) (kc ko : Nat → Nat) (kv : Nat → Int64) (k cd : Nat)  (hN : inj ad 5) (hIK : iK kc ko k) (hn128 : n ≤ 128) : Met l yX1_purge (wA yX1_purge cX1_purge 4 (some .int)) (rN 2) (va_Pc [.ref (ad 0)] (pW D c2 (tR ca) (wR ad ca T n kc ko kv k cd))) (qI (fun z (_ : Unit) => z = nI (ct (ch T kc ko kv k) n)) D c2 (fun _ => wR ad ca (pT (ch T kc ko kv k) T n) (n - ct (ch T kc ko kv k) n) kc ko kv k 0) (fA ad 5)) 0 0 (fA ad 5) := by
  refine met_of RX1 rfl (by decide) (Nat.le_of_ble_eq_true rfl) (fun p e s m below meth cd0 ls E hr hlk _ hB hl => ?_)
  obtain ⟨hP, hK⟩ := hB
  have hl : lv_has ls 4 [(0, .ref (ad 0))] := hl
  have hS : va_S (fA ad 5) s.heap s.heap [] := va_S.rf
  refine lv_aload_n E.1 E.2.1 dX1_purge_0 rfl (lv_at hl 0 rfl) ?_
  refine lv_iconst (v := nI 0) E.1 E.2.1 dX1_purge_1 rfl ?_
  refine n_put E inR tyR1 tyR1_ok nmR1 hK hP (dW hN rfl) hS 0 rfl rfl 0 (by decide) flR_23 rfl rfl (tyR1_ok 0 (by decide)) (Nat.le_of_ble_eq_true rfl) dX1_purge_2 (fun H locs hP hS => ?_)
  have hP : va_P D c2 (wR ad ca T n kc ko kv k 0) H := hP
  refine lv_iconst (v := nI 0) E.1 E.2.1 dX1_purge_5 rfl ?_
  refine lv_istore_n (lv' := [(1, .int (nI 0)), (0, .ref (ad 0))]) E.1 E.2.1 dX1_purge_6 rfl hl (by decide) rfl (fun ls hl => ?_)
  refine lv_iconst (v := nI 0) E.1 E.2.1 dX1_purge_7 rfl ?_
  refine lv_istore_n (lv' := [(2, .int (nI 0)), (1, .int (nI 0)), (0, .ref (ad 0))]) E.1 E.2.1 dX1_purge_8 rfl hl (by decide) rfl (fun ls hl => ?_)
  refine w_lq1 (fun (r : Nat) => r ≤ n) (fun (r : Nat) => n - r) (fun (r : Nat) => [(2, .int (nI r)), (1, .int (nI (r - ct (ch T kc ko kv k) r))), (0, .ref (ad 0))]) (fun (r : Nat) H locs => va_P D c2 (wR ad ca (pT (ch T kc ko kv k) T r) n kc ko kv k 0) H ∧ va_S (fA ad 5) s.heap H locs) 0 (Nat.zero_le _) ⟨hP, hS⟩ (lv_sub hl [0, 1, 2] rfl) (fun r ls H locs hI hB hl ih9 => ?_)
  obtain ⟨hP, hS⟩ := hB
  have hl : lv_has ls 4 [(2, .int (nI r)), (1, .int (nI (r - ct (ch T kc ko kv k) r))), (0, .ref (ad 0))] := hl
  have hP : va_P D c2 (wR ad ca (pT (ch T kc ko kv k) T r) n kc ko kv k 0) H := hP
  have hI9 := hI
  refine lv_iload_n E.1 E.2.1 dX1_purge_9 rfl (lv_at hl 0 rfl) ?_
  refine lv_aload_n E.1 E.2.1 dX1_purge_10 rfl (lv_at hl 2 rfl) ?_
  refine n_get E inR hK hP 0 rfl rfl 1 (by decide) flR_27 rfl rfl dX1_purge_11 ?_
  have hctr := ct_le (ch T kc ko kv k) r
  refine n_icmp_ge (tgt := 67) E dX1_purge_14 rfl (by omega) (by omega) (fun h14 => ?_) (fun h14 => ?_)
  · skip
    have e9 : n = r := by omega
    have hctn := ct_le (ch T kc ko kv k) n
    refine lv_aload_n E.1 E.2.1 dX1_purge_67 rfl (lv_at hl 2 rfl) ?_
    refine n_get E inR hK hP 0 rfl rfl 1 (by decide) flR_27 rfl rfl dX1_purge_68 ?_
    refine lv_iload_n E.1 E.2.1 dX1_purge_71 rfl (lv_at hl 1 rfl) ?_
    refine n_isub E (by omega) dX1_purge_72 ?_
    refine lv_istore_n (lv' := [(2, .int (nI (n - (r - ct (ch T kc ko kv k) r)))), (1, .int (nI (r - ct (ch T kc ko kv k) r))), (0, .ref (ad 0))]) E.1 E.2.1 dX1_purge_73 rfl hl (by decide) rfl (fun ls hl => ?_)
    refine lv_aload_n E.1 E.2.1 dX1_purge_74 rfl (lv_at hl 2 rfl) ?_
    refine lv_iload_n E.1 E.2.1 dX1_purge_75 rfl (lv_at hl 1 rfl) ?_
    refine n_put E inR tyR1 tyR1_ok nmR1 hK hP (dW hN rfl) hS 0 rfl rfl 1 (by decide) flR_27 rfl rfl (tyR1_ok 1 (by decide)) (Nat.le_of_ble_eq_true rfl) dX1_purge_76 (fun H locs hP hS => ?_)
    have hP : va_P D c2 (wR ad ca (pT (ch T kc ko kv k) T r) (r - ct (ch T kc ko kv k) r) kc ko kv k 0) H := hP
    refine lv_iload_n E.1 E.2.1 dX1_purge_79 rfl (lv_at hl 0 rfl) ?_
    exact e_wi E hr hlk hS () (congrArg nI (by rw [← e9]; omega)) (by rw [e9]; exact hP) dX1_purge_80
  · skip
    refine lv_aload_n E.1 E.2.1 dX1_purge_17 rfl (lv_at hl 2 rfl) ?_
    refine lv_iload_n E.1 E.2.1 dX1_purge_18 rfl (lv_at hl 0 rfl) ?_
    refine cV_i E (As := [.int (nI r)]) (rest := []) (cR_isChosen l D ad ca (pT (ch T kc ko kv k) T r) n kc ko kv k 0 r hIK (by omega)) kR_41 hK hP 0 rfl rfl rfl rfl ⟨Nat.le_of_ble_eq_true rfl, Nat.le_of_ble_eq_true rfl⟩ rfl hl.1 rfl (Nat.le_of_ble_eq_true rfl) dX1_purge_19 ⟨Nat.zero_le _, Nat.zero_le _⟩ ?_
    refine tpi (y := bI ((ch T kc ko kv k) r)) (congrArg bI (pT_ch r)) ?_
    refine b_if_ne (tgt := 61) E dX1_purge_22 rfl (fun h22 => ?_) (fun h22 => ?_)
    · skip
      refine lv_iinc (k := 0) (v := nI (r + 1)) (lv' := [(2, .int (nI (r + 1))), (1, .int (nI (r - ct (ch T kc ko kv k) r))), (0, .ref (ad 0))]) E.1 E.2.1 dX1_purge_61 hl rfl (inc1 _) (by decide) rfl (fun ls hl => ?_)
      refine lv_goto (tgt := 9) E.1 E.2.1 dX1_purge_64 rfl ?_
      rw [← pT_t h22] at hP
      rw [show r - ct (ch T kc ko kv k) r = r + 1 - ct (ch T kc ko kv k) (r + 1) by rw [ct_t h22]; omega] at hl
      exact ih9 (r + 1) _ _ _ (by omega) (by omega) ⟨hP, hS⟩ (lv_sub hl [0, 1, 2] rfl)
    · skip
      refine lv_iconst (v := nI 0) E.1 E.2.1 dX1_purge_25 rfl ?_
      refine lv_istore_n (lv' := [(3, .int (nI 0)), (2, .int (nI r)), (1, .int (nI (r - ct (ch T kc ko kv k) r))), (0, .ref (ad 0))]) E.1 E.2.1 dX1_purge_26 rfl hl (by decide) rfl (fun ls hl => ?_)
      rw [← mvR_0 (pT (ch T kc ko kv k) T r) r (r - ct (ch T kc ko kv k) r)] at hP
      refine w_lq1 (fun (d : Nat) => d ≤ 4) (fun (d : Nat) => 4 - d) (fun (d : Nat) => [(3, .int (nI d)), (2, .int (nI r)), (1, .int (nI (r - ct (ch T kc ko kv k) r))), (0, .ref (ad 0))]) (fun (d : Nat) H locs => va_P D c2 (wR ad ca (mvR (pT (ch T kc ko kv k) T r) r (r - ct (ch T kc ko kv k) r) d) n kc ko kv k 0) H ∧ va_S (fA ad 5) s.heap H locs) 0 (Nat.zero_le _) ⟨hP, hS⟩ (lv_sub hl [0, 1, 2, 3] rfl) (fun d ls H locs hI hB hl ih27 => ?_)
      obtain ⟨hP, hS⟩ := hB
      have hl : lv_has ls 4 [(3, .int (nI d)), (2, .int (nI r)), (1, .int (nI (r - ct (ch T kc ko kv k) r))), (0, .ref (ad 0))] := hl
      have hP : va_P D c2 (wR ad ca (mvR (pT (ch T kc ko kv k) T r) r (r - ct (ch T kc ko kv k) r) d) n kc ko kv k 0) H := hP
      refine lv_iload_n E.1 E.2.1 dX1_purge_27 rfl (lv_at hl 0 rfl) ?_
      refine lv_iconst (v := nI 4) E.1 E.2.1 dX1_purge_28 rfl ?_
      refine n_icmp_ge (tgt := 58) E dX1_purge_29 rfl (by omega) (by omega) (fun h29 => ?_) (fun h29 => ?_)
      · skip
        refine lv_iinc (k := 2) (v := nI (r - ct (ch T kc ko kv k) r + 1)) (lv' := [(1, .int (nI (r - ct (ch T kc ko kv k) r + 1))), (3, .int (nI d)), (2, .int (nI r)), (0, .ref (ad 0))]) E.1 E.2.1 dX1_purge_58 hl rfl (inc1 _) (by decide) rfl (fun ls hl => ?_)
        refine lv_iinc (k := 2) (v := nI (r + 1)) (lv' := [(2, .int (nI (r + 1))), (1, .int (nI (r - ct (ch T kc ko kv k) r + 1))), (3, .int (nI d)), (0, .ref (ad 0))]) E.1 E.2.1 dX1_purge_61 hl rfl (inc1 _) (by decide) rfl (fun ls hl => ?_)
        refine lv_goto (tgt := 9) E.1 E.2.1 dX1_purge_64 rfl ?_
        have e4 : d = 4 := by omega
        subst e4
        rw [← pT_f h22] at hP
        rw [show r - ct (ch T kc ko kv k) r + 1 = r + 1 - ct (ch T kc ko kv k) (r + 1) by rw [ct_f h22]; omega] at hl
        exact ih9 (r + 1) _ _ _ (by omega) (by omega) ⟨hP, hS⟩ (lv_sub hl [0, 1, 3] rfl)
      · skip
        refine lv_aload_n E.1 E.2.1 dX1_purge_32 rfl (lv_at hl 3 rfl) ?_
        refine n_get E inR hK hP 0 rfl rfl 2 (by decide) flR_7 rfl rfl dX1_purge_33 ?_
        refine lv_iconst (v := nI 4) E.1 E.2.1 dX1_purge_36 rfl ?_
        refine lv_iload_n E.1 E.2.1 dX1_purge_37 rfl (lv_at hl 2 rfl) ?_
        refine n_imul E dX1_purge_38 ?_
        refine lv_iload_n E.1 E.2.1 dX1_purge_39 rfl (lv_at hl 0 rfl) ?_
        refine n_iadd E dX1_purge_40 ?_
        refine lv_aload_n E.1 E.2.1 dX1_purge_41 rfl (lv_at hl 3 rfl) ?_
        refine n_get E inR hK hP 0 rfl rfl 2 (by decide) flR_7 rfl rfl dX1_purge_42 ?_
        refine lv_iconst (v := nI 4) E.1 E.2.1 dX1_purge_45 rfl ?_
        refine lv_iload_n E.1 E.2.1 dX1_purge_46 rfl (lv_at hl 1 rfl) ?_
        refine n_imul E dX1_purge_47 ?_
        refine lv_iload_n E.1 E.2.1 dX1_purge_48 rfl (lv_at hl 0 rfl) ?_
        refine n_iadd E dX1_purge_49 ?_
        refine n_rald E hK hP 1 0 rfl rfl r d (by omega) (by omega) (by omega) dX1_purge_50 ?_
        refine n_rast E hK hP (dW hN rfl) hS 1 0 rfl rfl (r - ct (ch T kc ko kv k) r) d (by omega) (by omega) (by omega) dX1_purge_51 (fun H locs hP hS => ?_)
        have hP : va_P D c2 (wR ad ca (tS (mvR (pT (ch T kc ko kv k) T r) r (r - ct (ch T kc ko kv k) r) d) (r - ct (ch T kc ko kv k) r) d (mvR (pT (ch T kc ko kv k) T r) r (r - ct (ch T kc ko kv k) r) d r d)) n kc ko kv k 0) H := hP
        refine lv_iinc (k := 0) (v := nI (d + 1)) (lv' := [(3, .int (nI (d + 1))), (2, .int (nI r)), (1, .int (nI (r - ct (ch T kc ko kv k) r))), (0, .ref (ad 0))]) E.1 E.2.1 dX1_purge_52 hl rfl (inc1 _) (by decide) rfl (fun ls hl => ?_)
        refine lv_goto (tgt := 27) E.1 E.2.1 dX1_purge_55 rfl ?_
        rw [mvR_s] at hP
        exact ih27 (d + 1) _ _ _ (by omega) (by omega) ⟨hP, hS⟩ (lv_sub hl [0, 1, 2, 3] rfl)
end
