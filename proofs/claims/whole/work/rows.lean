section
-- ===== PART A: goes FIRST, ahead of the names: the tables' words, and 'selects' of the private methods out of them =====
/-- a private method of a class that the tables say can be made, by its rows of tables_1 -/
def lw_okq (q : MethodName × Nat) : Prop := (q.1.cls ≠ "java/lang/invoke/MethodHandle" ∧ q.1.cls ≠ "java/lang/invoke/VarHandle") ∧ Cond.instantiable q.1.cls q.2 ∈ tables_1 ∧ Cond.privateMethod q.1 ∈ tables_1 ∧ Cond.instanceMethod q.1 ∈ tables_1
theorem lw_p0 : lw_okq (⟨"ColumnHall", "pick", "()I"⟩, 11) := ⟨⟨by decide +kernel, by decide +kernel⟩, List.mem_of_getElem? (i := 12) (by decide +kernel), List.mem_of_getElem? (i := 68) (by decide +kernel), List.mem_of_getElem? (i := 69) (by decide +kernel)⟩
theorem lw_p1 : lw_okq (⟨"ColumnHall", "startedBlocks", "()I"⟩, 11) := ⟨⟨by decide +kernel, by decide +kernel⟩, List.mem_of_getElem? (i := 12) (by decide +kernel), List.mem_of_getElem? (i := 72) (by decide +kernel), List.mem_of_getElem? (i := 73) (by decide +kernel)⟩
theorem lw_p2 : lw_okq (⟨"ColumnHall", "isPassedOver", "(I)Z"⟩, 11) := ⟨⟨by decide +kernel, by decide +kernel⟩, List.mem_of_getElem? (i := 12) (by decide +kernel), List.mem_of_getElem? (i := 76) (by decide +kernel), List.mem_of_getElem? (i := 77) (by decide +kernel)⟩
theorem lw_p3 : lw_okq (⟨"ColumnHall", "fullBlocks", "()I"⟩, 11) := ⟨⟨by decide +kernel, by decide +kernel⟩, List.mem_of_getElem? (i := 12) (by decide +kernel), List.mem_of_getElem? (i := 80) (by decide +kernel), List.mem_of_getElem? (i := 81) (by decide +kernel)⟩
theorem lw_p4 : lw_okq (⟨"ColumnHall", "pickFromBlock", "(II)I"⟩, 11) := ⟨⟨by decide +kernel, by decide +kernel⟩, List.mem_of_getElem? (i := 12) (by decide +kernel), List.mem_of_getElem? (i := 90) (by decide +kernel), List.mem_of_getElem? (i := 91) (by decide +kernel)⟩
theorem lw_p5 : lw_okq (⟨"ColumnHall", "isChosen", "(I)Z"⟩, 11) := ⟨⟨by decide +kernel, by decide +kernel⟩, List.mem_of_getElem? (i := 12) (by decide +kernel), List.mem_of_getElem? (i := 97) (by decide +kernel), List.mem_of_getElem? (i := 98) (by decide +kernel)⟩
theorem lw_p6 : lw_okq (⟨"ColumnHall", "moveRow", "(II)V"⟩, 11) := ⟨⟨by decide +kernel, by decide +kernel⟩, List.mem_of_getElem? (i := 12) (by decide +kernel), List.mem_of_getElem? (i := 112) (by decide +kernel), List.mem_of_getElem? (i := 113) (by decide +kernel)⟩
theorem lw_p7 : lw_okq (⟨"ColumnHall", "packFullBlocks", "()V"⟩, 11) := ⟨⟨by decide +kernel, by decide +kernel⟩, List.mem_of_getElem? (i := 12) (by decide +kernel), List.mem_of_getElem? (i := 116) (by decide +kernel), List.mem_of_getElem? (i := 117) (by decide +kernel)⟩
theorem lw_p8 : lw_okq (⟨"ColumnHall", "packBlock", "(I)V"⟩, 11) := ⟨⟨by decide +kernel, by decide +kernel⟩, List.mem_of_getElem? (i := 12) (by decide +kernel), List.mem_of_getElem? (i := 120) (by decide +kernel), List.mem_of_getElem? (i := 121) (by decide +kernel)⟩
theorem lw_p9 : lw_okq (⟨"ColumnHall", "packColumn", "(II)V"⟩, 11) := ⟨⟨by decide +kernel, by decide +kernel⟩, List.mem_of_getElem? (i := 12) (by decide +kernel), List.mem_of_getElem? (i := 124) (by decide +kernel), List.mem_of_getElem? (i := 125) (by decide +kernel)⟩
theorem lw_p10 : lw_okq (⟨"ColumnHall", "noteBounds", "(II)V"⟩, 11) := ⟨⟨by decide +kernel, by decide +kernel⟩, List.mem_of_getElem? (i := 12) (by decide +kernel), List.mem_of_getElem? (i := 128) (by decide +kernel), List.mem_of_getElem? (i := 129) (by decide +kernel)⟩
theorem lw_p11 : lw_okq (⟨"ColumnHall", "differentCells", "(I)I"⟩, 11) := ⟨⟨by decide +kernel, by decide +kernel⟩, List.mem_of_getElem? (i := 12) (by decide +kernel), List.mem_of_getElem? (i := 138) (by decide +kernel), List.mem_of_getElem? (i := 139) (by decide +kernel)⟩
theorem lw_p12 : lw_okq (⟨"ColumnHall", "stoodBefore", "(II)Z"⟩, 11) := ⟨⟨by decide +kernel, by decide +kernel⟩, List.mem_of_getElem? (i := 12) (by decide +kernel), List.mem_of_getElem? (i := 142) (by decide +kernel), List.mem_of_getElem? (i := 143) (by decide +kernel)⟩
theorem lw_p13 : lw_okq (⟨"ColumnHall", "runsOfCells", "(I)I"⟩, 11) := ⟨⟨by decide +kernel, by decide +kernel⟩, List.mem_of_getElem? (i := 12) (by decide +kernel), List.mem_of_getElem? (i := 149) (by decide +kernel), List.mem_of_getElem? (i := 150) (by decide +kernel)⟩
theorem lw_p14 : lw_okq (⟨"ColumnHall", "offerWay", "(III)V"⟩, 11) := ⟨⟨by decide +kernel, by decide +kernel⟩, List.mem_of_getElem? (i := 12) (by decide +kernel), List.mem_of_getElem? (i := 153) (by decide +kernel), List.mem_of_getElem? (i := 154) (by decide +kernel)⟩
theorem lw_p15 : lw_okq (⟨"java/lang/Throwable", "fillInStackTrace", "(I)Ljava/lang/Throwable;"⟩, 6) := ⟨⟨by decide +kernel, by decide +kernel⟩, List.mem_of_getElem? (i := 204) (by decide +kernel), List.mem_of_getElem? (i := 202) (by decide +kernel), List.mem_of_getElem? (i := 203) (by decide +kernel)⟩
def lw_privs_1 : List (MethodName × Nat) := [(⟨"ColumnHall", "pick", "()I"⟩, 11), (⟨"ColumnHall", "startedBlocks", "()I"⟩, 11), (⟨"ColumnHall", "isPassedOver", "(I)Z"⟩, 11), (⟨"ColumnHall", "fullBlocks", "()I"⟩, 11), (⟨"ColumnHall", "pickFromBlock", "(II)I"⟩, 11), (⟨"ColumnHall", "isChosen", "(I)Z"⟩, 11), (⟨"ColumnHall", "moveRow", "(II)V"⟩, 11), (⟨"ColumnHall", "packFullBlocks", "()V"⟩, 11), (⟨"ColumnHall", "packBlock", "(I)V"⟩, 11), (⟨"ColumnHall", "packColumn", "(II)V"⟩, 11), (⟨"ColumnHall", "noteBounds", "(II)V"⟩, 11), (⟨"ColumnHall", "differentCells", "(I)I"⟩, 11), (⟨"ColumnHall", "stoodBefore", "(II)Z"⟩, 11), (⟨"ColumnHall", "runsOfCells", "(I)I"⟩, 11), (⟨"ColumnHall", "offerWay", "(III)V"⟩, 11), (⟨"java/lang/Throwable", "fillInStackTrace", "(I)Ljava/lang/Throwable;"⟩, 6)]
theorem lw_r1 : ∀ q ∈ lw_privs_1, lw_okq q := List.forall_mem_cons.mpr ⟨lw_p0, List.forall_mem_cons.mpr ⟨lw_p1, List.forall_mem_cons.mpr ⟨lw_p2, List.forall_mem_cons.mpr ⟨lw_p3, List.forall_mem_cons.mpr ⟨lw_p4, List.forall_mem_cons.mpr ⟨lw_p5, List.forall_mem_cons.mpr ⟨lw_p6, List.forall_mem_cons.mpr ⟨lw_p7, List.forall_mem_cons.mpr ⟨lw_p8, List.forall_mem_cons.mpr ⟨lw_p9, List.forall_mem_cons.mpr ⟨lw_p10, List.forall_mem_cons.mpr ⟨lw_p11, List.forall_mem_cons.mpr ⟨lw_p12, List.forall_mem_cons.mpr ⟨lw_p13, List.forall_mem_cons.mpr ⟨lw_p14, List.forall_mem_cons.mpr ⟨lw_p15, fun _ h => absurd h List.not_mem_nil⟩⟩⟩⟩⟩⟩⟩⟩⟩⟩⟩⟩⟩⟩⟩⟩
theorem lw_p16 : lw_okq (⟨"ColumnHall", "sumOfPicked", "(III)J"⟩, 11) := ⟨⟨by decide +kernel, by decide +kernel⟩, List.mem_of_getElem? (i := 12) (by decide +kernel), List.mem_of_getElem? (i := 302) (by decide +kernel), List.mem_of_getElem? (i := 303) (by decide +kernel)⟩
theorem lw_p17 : lw_okq (⟨"ColumnHall", "boundOfPicked", "(IZII)J"⟩, 11) := ⟨⟨by decide +kernel, by decide +kernel⟩, List.mem_of_getElem? (i := 12) (by decide +kernel), List.mem_of_getElem? (i := 330) (by decide +kernel), List.mem_of_getElem? (i := 331) (by decide +kernel)⟩
theorem lw_p18 : lw_okq (⟨"ColumnHall", "sortPicked", "(IIZ)V"⟩, 11) := ⟨⟨by decide +kernel, by decide +kernel⟩, List.mem_of_getElem? (i := 12) (by decide +kernel), List.mem_of_getElem? (i := 341) (by decide +kernel), List.mem_of_getElem? (i := 342) (by decide +kernel)⟩
theorem lw_p19 : lw_okq (⟨"ColumnHall", "startsGroup", "(II)Z"⟩, 11) := ⟨⟨by decide +kernel, by decide +kernel⟩, List.mem_of_getElem? (i := 12) (by decide +kernel), List.mem_of_getElem? (i := 355) (by decide +kernel), List.mem_of_getElem? (i := 356) (by decide +kernel)⟩
theorem lw_p20 : lw_okq (⟨"ColumnHall", "groupStart", "(III)I"⟩, 11) := ⟨⟨by decide +kernel, by decide +kernel⟩, List.mem_of_getElem? (i := 12) (by decide +kernel), List.mem_of_getElem? (i := 367) (by decide +kernel), List.mem_of_getElem? (i := 368) (by decide +kernel)⟩
theorem lw_p21 : lw_okq (⟨"ColumnHall", "groupEnd", "(III)I"⟩, 11) := ⟨⟨by decide +kernel, by decide +kernel⟩, List.mem_of_getElem? (i := 12) (by decide +kernel), List.mem_of_getElem? (i := 372) (by decide +kernel), List.mem_of_getElem? (i := 373) (by decide +kernel)⟩
theorem lw_p22 : lw_okq (⟨"ColumnHall", "refuseUnpackedBlock", "(I)V"⟩, 11) := ⟨⟨by decide +kernel, by decide +kernel⟩, List.mem_of_getElem? (i := 12) (by decide +kernel), List.mem_of_getElem? (i := 390) (by decide +kernel), List.mem_of_getElem? (i := 391) (by decide +kernel)⟩
theorem lw_p23 : lw_okq (⟨"ColumnHallModel", "countChosen", "()I"⟩, 7) := ⟨⟨by decide +kernel, by decide +kernel⟩, List.mem_of_getElem? (i := 402) (by decide +kernel), List.mem_of_getElem? (i := 461) (by decide +kernel), List.mem_of_getElem? (i := 462) (by decide +kernel)⟩
theorem lw_p24 : lw_okq (⟨"ColumnHallModel", "isChosen", "(I)Z"⟩, 7) := ⟨⟨by decide +kernel, by decide +kernel⟩, List.mem_of_getElem? (i := 402) (by decide +kernel), List.mem_of_getElem? (i := 465) (by decide +kernel), List.mem_of_getElem? (i := 466) (by decide +kernel)⟩
theorem lw_p25 : lw_okq (⟨"ColumnHallModel", "least", "(II)J"⟩, 7) := ⟨⟨by decide +kernel, by decide +kernel⟩, List.mem_of_getElem? (i := 402) (by decide +kernel), List.mem_of_getElem? (i := 480) (by decide +kernel), List.mem_of_getElem? (i := 481) (by decide +kernel)⟩
theorem lw_p26 : lw_okq (⟨"ColumnHallModel", "greatest", "(II)J"⟩, 7) := ⟨⟨by decide +kernel, by decide +kernel⟩, List.mem_of_getElem? (i := 402) (by decide +kernel), List.mem_of_getElem? (i := 484) (by decide +kernel), List.mem_of_getElem? (i := 485) (by decide +kernel)⟩
theorem lw_p27 : lw_okq (⟨"ColumnHallModel", "lacks", "(II)Z"⟩, 7) := ⟨⟨by decide +kernel, by decide +kernel⟩, List.mem_of_getElem? (i := 402) (by decide +kernel), List.mem_of_getElem? (i := 495) (by decide +kernel), List.mem_of_getElem? (i := 496) (by decide +kernel)⟩
theorem lw_p28 : lw_okq (⟨"ColumnHallModel", "best", "(II)I"⟩, 7) := ⟨⟨by decide +kernel, by decide +kernel⟩, List.mem_of_getElem? (i := 402) (by decide +kernel), List.mem_of_getElem? (i := 499) (by decide +kernel), List.mem_of_getElem? (i := 500) (by decide +kernel)⟩
theorem lw_p29 : lw_okq (⟨"ColumnHallModel", "need", "(III)I"⟩, 7) := ⟨⟨by decide +kernel, by decide +kernel⟩, List.mem_of_getElem? (i := 402) (by decide +kernel), List.mem_of_getElem? (i := 503) (by decide +kernel), List.mem_of_getElem? (i := 504) (by decide +kernel)⟩
theorem lw_p30 : lw_okq (⟨"ColumnHallModel", "countGroups", "(I)I"⟩, 7) := ⟨⟨by decide +kernel, by decide +kernel⟩, List.mem_of_getElem? (i := 402) (by decide +kernel), List.mem_of_getElem? (i := 532) (by decide +kernel), List.mem_of_getElem? (i := 533) (by decide +kernel)⟩
theorem lw_p31 : lw_okq (⟨"ColumnHallModel", "isFirst", "(II)Z"⟩, 7) := ⟨⟨by decide +kernel, by decide +kernel⟩, List.mem_of_getElem? (i := 402) (by decide +kernel), List.mem_of_getElem? (i := 536) (by decide +kernel), List.mem_of_getElem? (i := 537) (by decide +kernel)⟩
def lw_privs_2 : List (MethodName × Nat) := [(⟨"ColumnHall", "sumOfPicked", "(III)J"⟩, 11), (⟨"ColumnHall", "boundOfPicked", "(IZII)J"⟩, 11), (⟨"ColumnHall", "sortPicked", "(IIZ)V"⟩, 11), (⟨"ColumnHall", "startsGroup", "(II)Z"⟩, 11), (⟨"ColumnHall", "groupStart", "(III)I"⟩, 11), (⟨"ColumnHall", "groupEnd", "(III)I"⟩, 11), (⟨"ColumnHall", "refuseUnpackedBlock", "(I)V"⟩, 11), (⟨"ColumnHallModel", "countChosen", "()I"⟩, 7), (⟨"ColumnHallModel", "isChosen", "(I)Z"⟩, 7), (⟨"ColumnHallModel", "least", "(II)J"⟩, 7), (⟨"ColumnHallModel", "greatest", "(II)J"⟩, 7), (⟨"ColumnHallModel", "lacks", "(II)Z"⟩, 7), (⟨"ColumnHallModel", "best", "(II)I"⟩, 7), (⟨"ColumnHallModel", "need", "(III)I"⟩, 7), (⟨"ColumnHallModel", "countGroups", "(I)I"⟩, 7), (⟨"ColumnHallModel", "isFirst", "(II)Z"⟩, 7)]
theorem lw_r2 : ∀ q ∈ lw_privs_2, lw_okq q := List.forall_mem_cons.mpr ⟨lw_p16, List.forall_mem_cons.mpr ⟨lw_p17, List.forall_mem_cons.mpr ⟨lw_p18, List.forall_mem_cons.mpr ⟨lw_p19, List.forall_mem_cons.mpr ⟨lw_p20, List.forall_mem_cons.mpr ⟨lw_p21, List.forall_mem_cons.mpr ⟨lw_p22, List.forall_mem_cons.mpr ⟨lw_p23, List.forall_mem_cons.mpr ⟨lw_p24, List.forall_mem_cons.mpr ⟨lw_p25, List.forall_mem_cons.mpr ⟨lw_p26, List.forall_mem_cons.mpr ⟨lw_p27, List.forall_mem_cons.mpr ⟨lw_p28, List.forall_mem_cons.mpr ⟨lw_p29, List.forall_mem_cons.mpr ⟨lw_p30, List.forall_mem_cons.mpr ⟨lw_p31, fun _ h => absurd h List.not_mem_nil⟩⟩⟩⟩⟩⟩⟩⟩⟩⟩⟩⟩⟩⟩⟩⟩
theorem lw_p32 : lw_okq (⟨"ColumnHallModel", "firstOf", "(II)I"⟩, 7) := ⟨⟨by decide +kernel, by decide +kernel⟩, List.mem_of_getElem? (i := 402) (by decide +kernel), List.mem_of_getElem? (i := 544) (by decide +kernel), List.mem_of_getElem? (i := 545) (by decide +kernel)⟩
def lw_privs_3 : List (MethodName × Nat) := [(⟨"ColumnHallModel", "firstOf", "(II)I"⟩, 7)]
theorem lw_r3 : ∀ q ∈ lw_privs_3, lw_okq q := List.forall_mem_cons.mpr ⟨lw_p32, fun _ h => absurd h List.not_mem_nil⟩
def lw_privs : List (MethodName × Nat) := lw_privs_1 ++ (lw_privs_2 ++ (lw_privs_3))
def lw_tbl : List Cond := k2_sels lw_privs ++ tables_1
theorem lw_privs_ok : ∀ q ∈ lw_privs, lw_okq q := by
  show ∀ q ∈ lw_privs_1 ++ (lw_privs_2 ++ (lw_privs_3)), lw_okq q
  exact List.forall_mem_append.mpr ⟨lw_r1, List.forall_mem_append.mpr ⟨lw_r2, lw_r3⟩⟩
end
section
/-! Names: methods with their code, fields; rows that decode the hall. By program (wip/whole/mknames.py) out of the tables and the listing. -/
def RX0 : String := "ColumnHall"
def TX0 : u_T := fun k => match k with
  | 0 => ("ColumnHall", "cells", "[J", true)
  | 1 => ("ColumnHall", "rowCount", "I", false)
  | 2 => ("ColumnHall", "conditionColumns", "[I", true)
  | 3 => ("ColumnHall", "conditionOps", "[I", true)
  | 4 => ("ColumnHall", "conditionValues", "[J", true)
  | 5 => ("ColumnHall", "conditionCount", "I", false)
  | 6 => ("ColumnHall", "leastCells", "[J", true)
  | 7 => ("ColumnHall", "greatestCells", "[J", true)
  | 8 => ("ColumnHall", "bestWays", "[I", true)
  | 9 => ("ColumnHall", "bestBits", "[I", true)
  | _ => ("ColumnHall", "picked", "[I", true)
def tyX0 : Nat → FieldType := fun k => match k with
  | 0 => .array .long
  | 1 => .int
  | 2 => .array .int
  | 3 => .array .int
  | 4 => .array .long
  | 5 => .int
  | 6 => .array .long
  | 7 => .array .long
  | 8 => .array .int
  | 9 => .array .int
  | _ => .array .int

theorem nmX0 : ∀ a, a < 11 → ∀ b, b < 11 → a ≠ b → (TX0 a).2.1 ≠ (TX0 b).2.1 := by decide +kernel
theorem tyX0_ok : ∀ k, k < 11 → parseFieldDescriptor (TX0 k).2.2.1 = some (tyX0 k) := by decide +kernel
def RX1 : String := "ColumnHallModel"
def RL : String := "ColumnHallLaw"
abbrev cX0_init : ByteArray := prog_1_method_1_code
def yX0_init : MethodName := ⟨RX0, "<init>", "()V"⟩
abbrev cX0_append : ByteArray := prog_1_method_2_code
def yX0_append : MethodName := ⟨RX0, "append", "(IIIJ)I"⟩
abbrev cX0_rows : ByteArray := prog_1_method_3_code
def yX0_rows : MethodName := ⟨RX0, "rows", "()I"⟩
abbrev cX0_cell : ByteArray := prog_1_method_4_code
def yX0_cell : MethodName := ⟨RX0, "cell", "(II)J"⟩
abbrev cX0_where : ByteArray := prog_1_method_5_code
def yX0_where : MethodName := ⟨RX0, "where", "(IIJ)I"⟩
abbrev cX0_all : ByteArray := prog_1_method_6_code
def yX0_all : MethodName := ⟨RX0, "all", "()I"⟩
abbrev cX0_chosen : ByteArray := prog_1_method_7_code
def yX0_chosen : MethodName := ⟨RX0, "chosen", "()I"⟩
abbrev cX0_row : ByteArray := prog_1_method_8_code
def yX0_row : MethodName := ⟨RX0, "row", "(I)I"⟩
abbrev cX0_blocks : ByteArray := prog_1_method_9_code
def yX0_blocks : MethodName := ⟨RX0, "blocks", "()I"⟩
abbrev cX0_sum : ByteArray := prog_1_method_10_code
def yX0_sum : MethodName := ⟨RX0, "sum", "(I)J"⟩
abbrev cX0_bound : ByteArray := prog_1_method_11_code
def yX0_bound : MethodName := ⟨RX0, "bound", "(IZ)J"⟩
abbrev cX0_ranked : ByteArray := prog_1_method_12_code
def yX0_ranked : MethodName := ⟨RX0, "ranked", "(II)I"⟩
abbrev cX0_groups : ByteArray := prog_1_method_13_code
def yX0_groups : MethodName := ⟨RX0, "groups", "(I)I"⟩
abbrev cX0_group : ByteArray := prog_1_method_14_code
def yX0_group : MethodName := ⟨RX0, "group", "(IIII)J"⟩
abbrev cX0_pairs : ByteArray := prog_1_method_15_code
def yX0_pairs : MethodName := ⟨RX0, "pairs", "(II)I"⟩
abbrev cX0_way : ByteArray := prog_1_method_16_code
def yX0_way : MethodName := ⟨RX0, "way", "(II)I"⟩
abbrev cX0_bits : ByteArray := prog_1_method_17_code
def yX0_bits : MethodName := ⟨RX0, "bits", "(II)I"⟩
abbrev cX0_purge : ByteArray := prog_1_method_18_code
def yX0_purge : MethodName := ⟨RX0, "purge", "()I"⟩
abbrev cX0_refuseBadColumn : ByteArray := prog_1_method_19_code
def yX0_refuseBadColumn : MethodName := ⟨RX0, "refuseBadColumn", "(I)V"⟩
abbrev cX0_refuseUnpackedBlock : ByteArray := prog_1_method_20_code
def yX0_refuseUnpackedBlock : MethodName := ⟨RX0, "refuseUnpackedBlock", "(I)V"⟩
abbrev cX0_spot : ByteArray := prog_1_method_21_code
def yX0_spot : MethodName := ⟨RX0, "spot", "(II)I"⟩
abbrev cX0_place : ByteArray := prog_1_method_22_code
def yX0_place : MethodName := ⟨RX0, "place", "(II)I"⟩
abbrev cX0_fullBlocks : ByteArray := prog_1_method_23_code
def yX0_fullBlocks : MethodName := ⟨RX0, "fullBlocks", "()I"⟩
abbrev cX0_startedBlocks : ByteArray := prog_1_method_24_code
def yX0_startedBlocks : MethodName := ⟨RX0, "startedBlocks", "()I"⟩
abbrev cX0_moveRow : ByteArray := prog_1_method_25_code
def yX0_moveRow : MethodName := ⟨RX0, "moveRow", "(II)V"⟩
abbrev cX0_pick : ByteArray := prog_1_method_26_code
def yX0_pick : MethodName := ⟨RX0, "pick", "()I"⟩
abbrev cX0_pickFromBlock : ByteArray := prog_1_method_27_code
def yX0_pickFromBlock : MethodName := ⟨RX0, "pickFromBlock", "(II)I"⟩
abbrev cX0_isChosen : ByteArray := prog_1_method_28_code
def yX0_isChosen : MethodName := ⟨RX0, "isChosen", "(I)Z"⟩
abbrev cX0_isPassedOver : ByteArray := prog_1_method_29_code
def yX0_isPassedOver : MethodName := ⟨RX0, "isPassedOver", "(I)Z"⟩
abbrev cX0_couldHold : ByteArray := prog_1_method_30_code
def yX0_couldHold : MethodName := ⟨RX0, "couldHold", "(IJJJ)Z"⟩
abbrev cX0_sumOfPicked : ByteArray := prog_1_method_31_code
def yX0_sumOfPicked : MethodName := ⟨RX0, "sumOfPicked", "(III)J"⟩
abbrev cX0_boundOfPicked : ByteArray := prog_1_method_32_code
def yX0_boundOfPicked : MethodName := ⟨RX0, "boundOfPicked", "(IZII)J"⟩
abbrev cX0_sortPicked : ByteArray := prog_1_method_33_code
def yX0_sortPicked : MethodName := ⟨RX0, "sortPicked", "(IIZ)V"⟩
abbrev cX0_comesBefore : ByteArray := prog_1_method_34_code
def yX0_comesBefore : MethodName := ⟨RX0, "comesBefore", "(JJZ)Z"⟩
abbrev cX0_startsGroup : ByteArray := prog_1_method_35_code
def yX0_startsGroup : MethodName := ⟨RX0, "startsGroup", "(II)Z"⟩
abbrev cX0_groupStart : ByteArray := prog_1_method_36_code
def yX0_groupStart : MethodName := ⟨RX0, "groupStart", "(III)I"⟩
abbrev cX0_groupEnd : ByteArray := prog_1_method_37_code
def yX0_groupEnd : MethodName := ⟨RX0, "groupEnd", "(III)I"⟩
abbrev cX0_packFullBlocks : ByteArray := prog_1_method_38_code
def yX0_packFullBlocks : MethodName := ⟨RX0, "packFullBlocks", "()V"⟩
abbrev cX0_packBlock : ByteArray := prog_1_method_39_code
def yX0_packBlock : MethodName := ⟨RX0, "packBlock", "(I)V"⟩
abbrev cX0_packColumn : ByteArray := prog_1_method_40_code
def yX0_packColumn : MethodName := ⟨RX0, "packColumn", "(II)V"⟩
abbrev cX0_offerWay : ByteArray := prog_1_method_41_code
def yX0_offerWay : MethodName := ⟨RX0, "offerWay", "(III)V"⟩
abbrev cX0_noteBounds : ByteArray := prog_1_method_42_code
def yX0_noteBounds : MethodName := ⟨RX0, "noteBounds", "(II)V"⟩
abbrev cX0_runsOfCells : ByteArray := prog_1_method_43_code
def yX0_runsOfCells : MethodName := ⟨RX0, "runsOfCells", "(I)I"⟩
abbrev cX0_differentCells : ByteArray := prog_1_method_44_code
def yX0_differentCells : MethodName := ⟨RX0, "differentCells", "(I)I"⟩
abbrev cX0_stoodBefore : ByteArray := prog_1_method_45_code
def yX0_stoodBefore : MethodName := ⟨RX0, "stoodBefore", "(II)Z"⟩
abbrev cX0_widthOf : ByteArray := prog_1_method_46_code
def yX0_widthOf : MethodName := ⟨RX0, "widthOf", "(J)I"⟩
abbrev cX1_init : ByteArray := prog_3_method_1_code
def yX1_init : MethodName := ⟨RX1, "<init>", "()V"⟩
abbrev cX1_thrown : ByteArray := prog_3_method_2_code
def yX1_thrown : MethodName := ⟨RX1, "thrown", "()I"⟩
abbrev cX1_isColumn : ByteArray := prog_3_method_3_code
def yX1_isColumn : MethodName := ⟨RX1, "isColumn", "(I)Z"⟩
abbrev cX1_append : ByteArray := prog_3_method_4_code
def yX1_append : MethodName := ⟨RX1, "append", "(IIIJ)I"⟩
abbrev cX1_rows : ByteArray := prog_3_method_5_code
def yX1_rows : MethodName := ⟨RX1, "rows", "()I"⟩
abbrev cX1_cell : ByteArray := prog_3_method_6_code
def yX1_cell : MethodName := ⟨RX1, "cell", "(II)J"⟩
abbrev cX1_where : ByteArray := prog_3_method_7_code
def yX1_where : MethodName := ⟨RX1, "where", "(IIJ)I"⟩
abbrev cX1_all : ByteArray := prog_3_method_8_code
def yX1_all : MethodName := ⟨RX1, "all", "()I"⟩
abbrev cX1_holds : ByteArray := prog_3_method_9_code
def yX1_holds : MethodName := ⟨RX1, "holds", "(IJJ)Z"⟩
abbrev cX1_isChosen : ByteArray := prog_3_method_10_code
def yX1_isChosen : MethodName := ⟨RX1, "isChosen", "(I)Z"⟩
abbrev cX1_countChosen : ByteArray := prog_3_method_11_code
def yX1_countChosen : MethodName := ⟨RX1, "countChosen", "()I"⟩
abbrev cX1_chosen : ByteArray := prog_3_method_12_code
def yX1_chosen : MethodName := ⟨RX1, "chosen", "()I"⟩
abbrev cX1_row : ByteArray := prog_3_method_13_code
def yX1_row : MethodName := ⟨RX1, "row", "(I)I"⟩
abbrev cX1_least : ByteArray := prog_3_method_14_code
def yX1_least : MethodName := ⟨RX1, "least", "(II)J"⟩
abbrev cX1_greatest : ByteArray := prog_3_method_15_code
def yX1_greatest : MethodName := ⟨RX1, "greatest", "(II)J"⟩
abbrev cX1_could : ByteArray := prog_3_method_16_code
def yX1_could : MethodName := ⟨RX1, "could", "(IJJJ)Z"⟩
abbrev cX1_blocks : ByteArray := prog_3_method_17_code
def yX1_blocks : MethodName := ⟨RX1, "blocks", "()I"⟩
abbrev cX1_width : ByteArray := prog_3_method_18_code
def yX1_width : MethodName := ⟨RX1, "width", "(J)I"⟩
abbrev cX1_need : ByteArray := prog_3_method_19_code
def yX1_need : MethodName := ⟨RX1, "need", "(III)I"⟩
abbrev cX1_best : ByteArray := prog_3_method_20_code
def yX1_best : MethodName := ⟨RX1, "best", "(II)I"⟩
abbrev cX1_lacks : ByteArray := prog_3_method_21_code
def yX1_lacks : MethodName := ⟨RX1, "lacks", "(II)Z"⟩
abbrev cX1_way : ByteArray := prog_3_method_22_code
def yX1_way : MethodName := ⟨RX1, "way", "(II)I"⟩
abbrev cX1_bits : ByteArray := prog_3_method_23_code
def yX1_bits : MethodName := ⟨RX1, "bits", "(II)I"⟩
abbrev cX1_sum : ByteArray := prog_3_method_24_code
def yX1_sum : MethodName := ⟨RX1, "sum", "(I)J"⟩
abbrev cX1_bound : ByteArray := prog_3_method_25_code
def yX1_bound : MethodName := ⟨RX1, "bound", "(IZ)J"⟩
abbrev cX1_ranked : ByteArray := prog_3_method_26_code
def yX1_ranked : MethodName := ⟨RX1, "ranked", "(II)I"⟩
abbrev cX1_isFirst : ByteArray := prog_3_method_27_code
def yX1_isFirst : MethodName := ⟨RX1, "isFirst", "(II)Z"⟩
abbrev cX1_countGroups : ByteArray := prog_3_method_28_code
def yX1_countGroups : MethodName := ⟨RX1, "countGroups", "(I)I"⟩
abbrev cX1_groups : ByteArray := prog_3_method_29_code
def yX1_groups : MethodName := ⟨RX1, "groups", "(I)I"⟩
abbrev cX1_firstOf : ByteArray := prog_3_method_30_code
def yX1_firstOf : MethodName := ⟨RX1, "firstOf", "(II)I"⟩
abbrev cX1_group : ByteArray := prog_3_method_31_code
def yX1_group : MethodName := ⟨RX1, "group", "(IIII)J"⟩
abbrev cX1_pairs : ByteArray := prog_3_method_32_code
def yX1_pairs : MethodName := ⟨RX1, "pairs", "(II)I"⟩
abbrev cX1_purge : ByteArray := prog_3_method_33_code
def yX1_purge : MethodName := ⟨RX1, "purge", "()I"⟩
abbrev cL_append : ByteArray := method_3_code
def yL_append : MethodName := ⟨RL, "append", "(LColumnHall;IIIJ[J)I"⟩
abbrev cL_cell : ByteArray := method_4_code
def yL_cell : MethodName := ⟨RL, "cell", "(LColumnHall;II[J)I"⟩
abbrev cL_where : ByteArray := method_5_code
def yL_where : MethodName := ⟨RL, "where", "(LColumnHall;IIJ[J)I"⟩
abbrev cL_row : ByteArray := method_6_code
def yL_row : MethodName := ⟨RL, "row", "(LColumnHall;I[J)I"⟩
abbrev cL_sum : ByteArray := method_7_code
def yL_sum : MethodName := ⟨RL, "sum", "(LColumnHall;I[J)I"⟩
abbrev cL_bound : ByteArray := method_8_code
def yL_bound : MethodName := ⟨RL, "bound", "(LColumnHall;IZ[J)I"⟩
abbrev cL_ranked : ByteArray := method_9_code
def yL_ranked : MethodName := ⟨RL, "ranked", "(LColumnHall;II[J)I"⟩
abbrev cL_groups : ByteArray := method_10_code
def yL_groups : MethodName := ⟨RL, "groups", "(LColumnHall;I[J)I"⟩
abbrev cL_group : ByteArray := method_11_code
def yL_group : MethodName := ⟨RL, "group", "(LColumnHall;IIII[J)I"⟩
abbrev cL_pairs : ByteArray := method_12_code
def yL_pairs : MethodName := ⟨RL, "pairs", "(LColumnHall;II[J)I"⟩
abbrev cL_way : ByteArray := method_13_code
def yL_way : MethodName := ⟨RL, "way", "(LColumnHall;II[J)I"⟩
abbrev cL_bits : ByteArray := method_14_code
def yL_bits : MethodName := ⟨RL, "bits", "(LColumnHall;II[J)I"⟩
abbrev cL_law : ByteArray := code
def yL_law : MethodName := ⟨RL, "law", "([I)Z"⟩
end
section
/-! rows that decode the hall -/
theorem dX0_init_0 : decode cX0_init 0 = .ok (.aload_n 0, 1) := by decide +kernel
theorem dX0_init_1 : decode cX0_init 1 = .ok (.invokespecial 3, 3) := by decide +kernel
theorem dX0_init_4 : decode cX0_init 4 = .ok (.aload_n 0, 1) := by decide +kernel
theorem dX0_init_5 : decode cX0_init 5 = .ok (.sipush 512, 3) := by decide +kernel
theorem dX0_init_8 : decode cX0_init 8 = .ok (.newarray .long, 2) := by decide +kernel
theorem dX0_init_10 : decode cX0_init 10 = .ok (.putfield 9, 3) := by decide +kernel
theorem dX0_init_13 : decode cX0_init 13 = .ok (.aload_n 0, 1) := by decide +kernel
theorem dX0_init_14 : decode cX0_init 14 = .ok (.iconst 0, 1) := by decide +kernel
theorem dX0_init_15 : decode cX0_init 15 = .ok (.putfield 13, 3) := by decide +kernel
theorem dX0_init_18 : decode cX0_init 18 = .ok (.aload_n 0, 1) := by decide +kernel
theorem dX0_init_19 : decode cX0_init 19 = .ok (.iconst 3, 1) := by decide +kernel
theorem dX0_init_20 : decode cX0_init 20 = .ok (.newarray .int, 2) := by decide +kernel
theorem dX0_init_22 : decode cX0_init 22 = .ok (.putfield 17, 3) := by decide +kernel
theorem dX0_init_25 : decode cX0_init 25 = .ok (.aload_n 0, 1) := by decide +kernel
theorem dX0_init_26 : decode cX0_init 26 = .ok (.iconst 3, 1) := by decide +kernel
theorem dX0_init_27 : decode cX0_init 27 = .ok (.newarray .int, 2) := by decide +kernel
theorem dX0_init_29 : decode cX0_init 29 = .ok (.putfield 21, 3) := by decide +kernel
theorem dX0_init_32 : decode cX0_init 32 = .ok (.aload_n 0, 1) := by decide +kernel
theorem dX0_init_33 : decode cX0_init 33 = .ok (.iconst 3, 1) := by decide +kernel
theorem dX0_init_34 : decode cX0_init 34 = .ok (.newarray .long, 2) := by decide +kernel
theorem dX0_init_36 : decode cX0_init 36 = .ok (.putfield 24, 3) := by decide +kernel
theorem dX0_init_39 : decode cX0_init 39 = .ok (.aload_n 0, 1) := by decide +kernel
theorem dX0_init_40 : decode cX0_init 40 = .ok (.iconst 0, 1) := by decide +kernel
theorem dX0_init_41 : decode cX0_init 41 = .ok (.putfield 27, 3) := by decide +kernel
theorem dX0_init_44 : decode cX0_init 44 = .ok (.aload_n 0, 1) := by decide +kernel
theorem dX0_init_45 : decode cX0_init 45 = .ok (.bipush 32, 2) := by decide +kernel
theorem dX0_init_47 : decode cX0_init 47 = .ok (.newarray .long, 2) := by decide +kernel
theorem dX0_init_49 : decode cX0_init 49 = .ok (.putfield 30, 3) := by decide +kernel
theorem dX0_init_52 : decode cX0_init 52 = .ok (.aload_n 0, 1) := by decide +kernel
theorem dX0_init_53 : decode cX0_init 53 = .ok (.bipush 32, 2) := by decide +kernel
theorem dX0_init_55 : decode cX0_init 55 = .ok (.newarray .long, 2) := by decide +kernel
theorem dX0_init_57 : decode cX0_init 57 = .ok (.putfield 33, 3) := by decide +kernel
theorem dX0_init_60 : decode cX0_init 60 = .ok (.aload_n 0, 1) := by decide +kernel
theorem dX0_init_61 : decode cX0_init 61 = .ok (.bipush 32, 2) := by decide +kernel
theorem dX0_init_63 : decode cX0_init 63 = .ok (.newarray .int, 2) := by decide +kernel
theorem dX0_init_65 : decode cX0_init 65 = .ok (.putfield 36, 3) := by decide +kernel
theorem dX0_init_68 : decode cX0_init 68 = .ok (.aload_n 0, 1) := by decide +kernel
theorem dX0_init_69 : decode cX0_init 69 = .ok (.bipush 32, 2) := by decide +kernel
theorem dX0_init_71 : decode cX0_init 71 = .ok (.newarray .int, 2) := by decide +kernel
theorem dX0_init_73 : decode cX0_init 73 = .ok (.putfield 39, 3) := by decide +kernel
theorem dX0_init_76 : decode cX0_init 76 = .ok (.aload_n 0, 1) := by decide +kernel
theorem dX0_init_77 : decode cX0_init 77 = .ok (.sipush 128, 3) := by decide +kernel
theorem dX0_init_80 : decode cX0_init 80 = .ok (.newarray .int, 2) := by decide +kernel
theorem dX0_init_82 : decode cX0_init 82 = .ok (.putfield 42, 3) := by decide +kernel
theorem dX0_init_85 : decode cX0_init 85 = .ok (.return_, 1) := by decide +kernel
theorem dX0_append_0 : decode cX0_append 0 = .ok (.aload_n 0, 1) := by decide +kernel
theorem dX0_append_1 : decode cX0_append 1 = .ok (.getfield 13, 3) := by decide +kernel
theorem dX0_append_4 : decode cX0_append 4 = .ok (.sipush 128, 3) := by decide +kernel
theorem dX0_append_7 : decode cX0_append 7 = .ok (.if_icmp .lt 13, 3) := by decide +kernel
theorem dX0_append_10 : decode cX0_append 10 = .ok (.new 45, 3) := by decide +kernel
theorem dX0_append_13 : decode cX0_append 13 = .ok (.dup, 1) := by decide +kernel
theorem dX0_append_14 : decode cX0_append 14 = .ok (.ldc 47, 2) := by decide +kernel
theorem dX0_append_16 : decode cX0_append 16 = .ok (.invokespecial 49, 3) := by decide +kernel
theorem dX0_append_19 : decode cX0_append 19 = .ok (.athrow, 1) := by decide +kernel
theorem dX0_append_20 : decode cX0_append 20 = .ok (.aload_n 0, 1) := by decide +kernel
theorem dX0_append_21 : decode cX0_append 21 = .ok (.getfield 13, 3) := by decide +kernel
theorem dX0_append_24 : decode cX0_append 24 = .ok (.istore 6, 2) := by decide +kernel
theorem dX0_append_26 : decode cX0_append 26 = .ok (.aload_n 0, 1) := by decide +kernel
theorem dX0_append_27 : decode cX0_append 27 = .ok (.getfield 9, 3) := by decide +kernel
theorem dX0_append_30 : decode cX0_append 30 = .ok (.iload 6, 2) := by decide +kernel
theorem dX0_append_32 : decode cX0_append 32 = .ok (.iconst 0, 1) := by decide +kernel
theorem dX0_append_33 : decode cX0_append 33 = .ok (.invokestatic 52, 3) := by decide +kernel
theorem dX0_append_36 : decode cX0_append 36 = .ok (.iload_n 1, 1) := by decide +kernel
theorem dX0_append_37 : decode cX0_append 37 = .ok (.i2l, 1) := by decide +kernel
theorem dX0_append_38 : decode cX0_append 38 = .ok (.lastore, 1) := by decide +kernel
theorem dX0_append_39 : decode cX0_append 39 = .ok (.aload_n 0, 1) := by decide +kernel
theorem dX0_append_40 : decode cX0_append 40 = .ok (.getfield 9, 3) := by decide +kernel
theorem dX0_append_43 : decode cX0_append 43 = .ok (.iload 6, 2) := by decide +kernel
theorem dX0_append_45 : decode cX0_append 45 = .ok (.iconst 1, 1) := by decide +kernel
theorem dX0_append_46 : decode cX0_append 46 = .ok (.invokestatic 52, 3) := by decide +kernel
theorem dX0_append_49 : decode cX0_append 49 = .ok (.iload_n 2, 1) := by decide +kernel
theorem dX0_append_50 : decode cX0_append 50 = .ok (.i2l, 1) := by decide +kernel
theorem dX0_append_51 : decode cX0_append 51 = .ok (.lastore, 1) := by decide +kernel
theorem dX0_append_52 : decode cX0_append 52 = .ok (.aload_n 0, 1) := by decide +kernel
theorem dX0_append_53 : decode cX0_append 53 = .ok (.getfield 9, 3) := by decide +kernel
theorem dX0_append_56 : decode cX0_append 56 = .ok (.iload 6, 2) := by decide +kernel
theorem dX0_append_58 : decode cX0_append 58 = .ok (.iconst 2, 1) := by decide +kernel
theorem dX0_append_59 : decode cX0_append 59 = .ok (.invokestatic 52, 3) := by decide +kernel
theorem dX0_append_62 : decode cX0_append 62 = .ok (.iload_n 3, 1) := by decide +kernel
theorem dX0_append_63 : decode cX0_append 63 = .ok (.i2l, 1) := by decide +kernel
theorem dX0_append_64 : decode cX0_append 64 = .ok (.lastore, 1) := by decide +kernel
theorem dX0_append_65 : decode cX0_append 65 = .ok (.aload_n 0, 1) := by decide +kernel
theorem dX0_append_66 : decode cX0_append 66 = .ok (.getfield 9, 3) := by decide +kernel
theorem dX0_append_69 : decode cX0_append 69 = .ok (.iload 6, 2) := by decide +kernel
theorem dX0_append_71 : decode cX0_append 71 = .ok (.iconst 3, 1) := by decide +kernel
theorem dX0_append_72 : decode cX0_append 72 = .ok (.invokestatic 52, 3) := by decide +kernel
theorem dX0_append_75 : decode cX0_append 75 = .ok (.lload 4, 2) := by decide +kernel
theorem dX0_append_77 : decode cX0_append 77 = .ok (.lastore, 1) := by decide +kernel
theorem dX0_append_78 : decode cX0_append 78 = .ok (.aload_n 0, 1) := by decide +kernel
theorem dX0_append_79 : decode cX0_append 79 = .ok (.iload 6, 2) := by decide +kernel
theorem dX0_append_81 : decode cX0_append 81 = .ok (.iconst 1, 1) := by decide +kernel
theorem dX0_append_82 : decode cX0_append 82 = .ok (.iadd, 1) := by decide +kernel
theorem dX0_append_83 : decode cX0_append 83 = .ok (.putfield 13, 3) := by decide +kernel
theorem dX0_append_86 : decode cX0_append 86 = .ok (.aload_n 0, 1) := by decide +kernel
theorem dX0_append_87 : decode cX0_append 87 = .ok (.getfield 13, 3) := by decide +kernel
theorem dX0_append_90 : decode cX0_append 90 = .ok (.bipush 16, 2) := by decide +kernel
theorem dX0_append_92 : decode cX0_append 92 = .ok (.irem, 1) := by decide +kernel
theorem dX0_append_93 : decode cX0_append 93 = .ok (.ifCond .ne 12, 3) := by decide +kernel
theorem dX0_append_96 : decode cX0_append 96 = .ok (.aload_n 0, 1) := by decide +kernel
theorem dX0_append_97 : decode cX0_append 97 = .ok (.iload 6, 2) := by decide +kernel
theorem dX0_append_99 : decode cX0_append 99 = .ok (.bipush 16, 2) := by decide +kernel
theorem dX0_append_101 : decode cX0_append 101 = .ok (.idiv, 1) := by decide +kernel
theorem dX0_append_102 : decode cX0_append 102 = .ok (.invokevirtual 56, 3) := by decide +kernel
theorem dX0_append_105 : decode cX0_append 105 = .ok (.iload 6, 2) := by decide +kernel
theorem dX0_append_107 : decode cX0_append 107 = .ok (.ireturn, 1) := by decide +kernel
theorem dX0_rows_0 : decode cX0_rows 0 = .ok (.aload_n 0, 1) := by decide +kernel
theorem dX0_rows_1 : decode cX0_rows 1 = .ok (.getfield 13, 3) := by decide +kernel
theorem dX0_rows_4 : decode cX0_rows 4 = .ok (.ireturn, 1) := by decide +kernel
theorem dX0_cell_0 : decode cX0_cell 0 = .ok (.iload_n 2, 1) := by decide +kernel
theorem dX0_cell_1 : decode cX0_cell 1 = .ok (.invokestatic 60, 3) := by decide +kernel
theorem dX0_cell_4 : decode cX0_cell 4 = .ok (.iload_n 1, 1) := by decide +kernel
theorem dX0_cell_5 : decode cX0_cell 5 = .ok (.ifCond .lt 11, 3) := by decide +kernel
theorem dX0_cell_8 : decode cX0_cell 8 = .ok (.iload_n 1, 1) := by decide +kernel
theorem dX0_cell_9 : decode cX0_cell 9 = .ok (.aload_n 0, 1) := by decide +kernel
theorem dX0_cell_10 : decode cX0_cell 10 = .ok (.getfield 13, 3) := by decide +kernel
theorem dX0_cell_13 : decode cX0_cell 13 = .ok (.if_icmp .lt 13, 3) := by decide +kernel
theorem dX0_cell_16 : decode cX0_cell 16 = .ok (.new 63, 3) := by decide +kernel
theorem dX0_cell_19 : decode cX0_cell 19 = .ok (.dup, 1) := by decide +kernel
theorem dX0_cell_20 : decode cX0_cell 20 = .ok (.ldc 65, 2) := by decide +kernel
theorem dX0_cell_22 : decode cX0_cell 22 = .ok (.invokespecial 67, 3) := by decide +kernel
theorem dX0_cell_25 : decode cX0_cell 25 = .ok (.athrow, 1) := by decide +kernel
theorem dX0_cell_26 : decode cX0_cell 26 = .ok (.aload_n 0, 1) := by decide +kernel
theorem dX0_cell_27 : decode cX0_cell 27 = .ok (.getfield 9, 3) := by decide +kernel
theorem dX0_cell_30 : decode cX0_cell 30 = .ok (.iload_n 1, 1) := by decide +kernel
theorem dX0_cell_31 : decode cX0_cell 31 = .ok (.iload_n 2, 1) := by decide +kernel
theorem dX0_cell_32 : decode cX0_cell 32 = .ok (.invokestatic 52, 3) := by decide +kernel
theorem dX0_cell_35 : decode cX0_cell 35 = .ok (.laload, 1) := by decide +kernel
theorem dX0_cell_36 : decode cX0_cell 36 = .ok (.lreturn, 1) := by decide +kernel
theorem dX0_where_0 : decode cX0_where 0 = .ok (.iload_n 1, 1) := by decide +kernel
theorem dX0_where_1 : decode cX0_where 1 = .ok (.invokestatic 60, 3) := by decide +kernel
theorem dX0_where_4 : decode cX0_where 4 = .ok (.iload_n 2, 1) := by decide +kernel
theorem dX0_where_5 : decode cX0_where 5 = .ok (.ifCond .lt 8, 3) := by decide +kernel
theorem dX0_where_8 : decode cX0_where 8 = .ok (.iload_n 2, 1) := by decide +kernel
theorem dX0_where_9 : decode cX0_where 9 = .ok (.iconst 5, 1) := by decide +kernel
theorem dX0_where_10 : decode cX0_where 10 = .ok (.if_icmp .le 13, 3) := by decide +kernel
theorem dX0_where_13 : decode cX0_where 13 = .ok (.new 68, 3) := by decide +kernel
theorem dX0_where_16 : decode cX0_where 16 = .ok (.dup, 1) := by decide +kernel
theorem dX0_where_17 : decode cX0_where 17 = .ok (.ldc 70, 2) := by decide +kernel
theorem dX0_where_19 : decode cX0_where 19 = .ok (.invokespecial 72, 3) := by decide +kernel
theorem dX0_where_22 : decode cX0_where 22 = .ok (.athrow, 1) := by decide +kernel
theorem dX0_where_23 : decode cX0_where 23 = .ok (.aload_n 0, 1) := by decide +kernel
theorem dX0_where_24 : decode cX0_where 24 = .ok (.getfield 27, 3) := by decide +kernel
theorem dX0_where_27 : decode cX0_where 27 = .ok (.iconst 3, 1) := by decide +kernel
theorem dX0_where_28 : decode cX0_where 28 = .ok (.if_icmp .lt 13, 3) := by decide +kernel
theorem dX0_where_31 : decode cX0_where 31 = .ok (.new 45, 3) := by decide +kernel
theorem dX0_where_34 : decode cX0_where 34 = .ok (.dup, 1) := by decide +kernel
theorem dX0_where_35 : decode cX0_where 35 = .ok (.ldc 73, 2) := by decide +kernel
theorem dX0_where_37 : decode cX0_where 37 = .ok (.invokespecial 49, 3) := by decide +kernel
theorem dX0_where_40 : decode cX0_where 40 = .ok (.athrow, 1) := by decide +kernel
theorem dX0_where_41 : decode cX0_where 41 = .ok (.aload_n 0, 1) := by decide +kernel
theorem dX0_where_42 : decode cX0_where 42 = .ok (.getfield 17, 3) := by decide +kernel
theorem dX0_where_45 : decode cX0_where 45 = .ok (.aload_n 0, 1) := by decide +kernel
theorem dX0_where_46 : decode cX0_where 46 = .ok (.getfield 27, 3) := by decide +kernel
theorem dX0_where_49 : decode cX0_where 49 = .ok (.iload_n 1, 1) := by decide +kernel
theorem dX0_where_50 : decode cX0_where 50 = .ok (.iastore, 1) := by decide +kernel
theorem dX0_where_51 : decode cX0_where 51 = .ok (.aload_n 0, 1) := by decide +kernel
theorem dX0_where_52 : decode cX0_where 52 = .ok (.getfield 21, 3) := by decide +kernel
theorem dX0_where_55 : decode cX0_where 55 = .ok (.aload_n 0, 1) := by decide +kernel
theorem dX0_where_56 : decode cX0_where 56 = .ok (.getfield 27, 3) := by decide +kernel
theorem dX0_where_59 : decode cX0_where 59 = .ok (.iload_n 2, 1) := by decide +kernel
theorem dX0_where_60 : decode cX0_where 60 = .ok (.iastore, 1) := by decide +kernel
theorem dX0_where_61 : decode cX0_where 61 = .ok (.aload_n 0, 1) := by decide +kernel
theorem dX0_where_62 : decode cX0_where 62 = .ok (.getfield 24, 3) := by decide +kernel
theorem dX0_where_65 : decode cX0_where 65 = .ok (.aload_n 0, 1) := by decide +kernel
theorem dX0_where_66 : decode cX0_where 66 = .ok (.getfield 27, 3) := by decide +kernel
theorem dX0_where_69 : decode cX0_where 69 = .ok (.lload_n 3, 1) := by decide +kernel
theorem dX0_where_70 : decode cX0_where 70 = .ok (.lastore, 1) := by decide +kernel
theorem dX0_where_71 : decode cX0_where 71 = .ok (.aload_n 0, 1) := by decide +kernel
theorem dX0_where_72 : decode cX0_where 72 = .ok (.dup, 1) := by decide +kernel
theorem dX0_where_73 : decode cX0_where 73 = .ok (.getfield 27, 3) := by decide +kernel
theorem dX0_where_76 : decode cX0_where 76 = .ok (.iconst 1, 1) := by decide +kernel
theorem dX0_where_77 : decode cX0_where 77 = .ok (.iadd, 1) := by decide +kernel
theorem dX0_where_78 : decode cX0_where 78 = .ok (.putfield 27, 3) := by decide +kernel
theorem dX0_where_81 : decode cX0_where 81 = .ok (.aload_n 0, 1) := by decide +kernel
theorem dX0_where_82 : decode cX0_where 82 = .ok (.getfield 27, 3) := by decide +kernel
theorem dX0_where_85 : decode cX0_where 85 = .ok (.ireturn, 1) := by decide +kernel
theorem dX0_all_0 : decode cX0_all 0 = .ok (.aload_n 0, 1) := by decide +kernel
theorem dX0_all_1 : decode cX0_all 1 = .ok (.getfield 27, 3) := by decide +kernel
theorem dX0_all_4 : decode cX0_all 4 = .ok (.istore_n 1, 1) := by decide +kernel
theorem dX0_all_5 : decode cX0_all 5 = .ok (.aload_n 0, 1) := by decide +kernel
theorem dX0_all_6 : decode cX0_all 6 = .ok (.iconst 0, 1) := by decide +kernel
theorem dX0_all_7 : decode cX0_all 7 = .ok (.putfield 27, 3) := by decide +kernel
theorem dX0_all_10 : decode cX0_all 10 = .ok (.iload_n 1, 1) := by decide +kernel
theorem dX0_all_11 : decode cX0_all 11 = .ok (.ireturn, 1) := by decide +kernel
theorem dX0_chosen_0 : decode cX0_chosen 0 = .ok (.aload_n 0, 1) := by decide +kernel
theorem dX0_chosen_1 : decode cX0_chosen 1 = .ok (.invokevirtual 75, 3) := by decide +kernel
theorem dX0_chosen_4 : decode cX0_chosen 4 = .ok (.ireturn, 1) := by decide +kernel
theorem dX0_row_0 : decode cX0_row 0 = .ok (.aload_n 0, 1) := by decide +kernel
theorem dX0_row_1 : decode cX0_row 1 = .ok (.invokevirtual 75, 3) := by decide +kernel
theorem dX0_row_4 : decode cX0_row 4 = .ok (.istore_n 2, 1) := by decide +kernel
theorem dX0_row_5 : decode cX0_row 5 = .ok (.iload_n 1, 1) := by decide +kernel
theorem dX0_row_6 : decode cX0_row 6 = .ok (.ifCond .lt 8, 3) := by decide +kernel
theorem dX0_row_9 : decode cX0_row 9 = .ok (.iload_n 1, 1) := by decide +kernel
theorem dX0_row_10 : decode cX0_row 10 = .ok (.iload_n 2, 1) := by decide +kernel
theorem dX0_row_11 : decode cX0_row 11 = .ok (.if_icmp .lt 13, 3) := by decide +kernel
theorem dX0_row_14 : decode cX0_row 14 = .ok (.new 63, 3) := by decide +kernel
theorem dX0_row_17 : decode cX0_row 17 = .ok (.dup, 1) := by decide +kernel
theorem dX0_row_18 : decode cX0_row 18 = .ok (.ldc 79, 2) := by decide +kernel
theorem dX0_row_20 : decode cX0_row 20 = .ok (.invokespecial 67, 3) := by decide +kernel
theorem dX0_row_23 : decode cX0_row 23 = .ok (.athrow, 1) := by decide +kernel
theorem dX0_row_24 : decode cX0_row 24 = .ok (.aload_n 0, 1) := by decide +kernel
theorem dX0_row_25 : decode cX0_row 25 = .ok (.getfield 42, 3) := by decide +kernel
theorem dX0_row_28 : decode cX0_row 28 = .ok (.iload_n 1, 1) := by decide +kernel
theorem dX0_row_29 : decode cX0_row 29 = .ok (.iaload, 1) := by decide +kernel
theorem dX0_row_30 : decode cX0_row 30 = .ok (.ireturn, 1) := by decide +kernel
theorem dX0_blocks_0 : decode cX0_blocks 0 = .ok (.iconst 0, 1) := by decide +kernel
theorem dX0_blocks_1 : decode cX0_blocks 1 = .ok (.istore_n 1, 1) := by decide +kernel
theorem dX0_blocks_2 : decode cX0_blocks 2 = .ok (.iconst 0, 1) := by decide +kernel
theorem dX0_blocks_3 : decode cX0_blocks 3 = .ok (.istore_n 2, 1) := by decide +kernel
theorem dX0_blocks_4 : decode cX0_blocks 4 = .ok (.iload_n 2, 1) := by decide +kernel
theorem dX0_blocks_5 : decode cX0_blocks 5 = .ok (.aload_n 0, 1) := by decide +kernel
theorem dX0_blocks_6 : decode cX0_blocks 6 = .ok (.invokevirtual 81, 3) := by decide +kernel
theorem dX0_blocks_9 : decode cX0_blocks 9 = .ok (.if_icmp .ge 20, 3) := by decide +kernel
theorem dX0_blocks_12 : decode cX0_blocks 12 = .ok (.aload_n 0, 1) := by decide +kernel
theorem dX0_blocks_13 : decode cX0_blocks 13 = .ok (.iload_n 2, 1) := by decide +kernel
theorem dX0_blocks_14 : decode cX0_blocks 14 = .ok (.invokevirtual 84, 3) := by decide +kernel
theorem dX0_blocks_17 : decode cX0_blocks 17 = .ok (.ifCond .ne 6, 3) := by decide +kernel
theorem dX0_blocks_20 : decode cX0_blocks 20 = .ok (.iinc 1 1, 3) := by decide +kernel
theorem dX0_blocks_23 : decode cX0_blocks 23 = .ok (.iinc 2 1, 3) := by decide +kernel
theorem dX0_blocks_26 : decode cX0_blocks 26 = .ok (.goto (-22), 3) := by decide +kernel
theorem dX0_blocks_29 : decode cX0_blocks 29 = .ok (.iload_n 1, 1) := by decide +kernel
theorem dX0_blocks_30 : decode cX0_blocks 30 = .ok (.ireturn, 1) := by decide +kernel
theorem dX0_sum_0 : decode cX0_sum 0 = .ok (.iload_n 1, 1) := by decide +kernel
theorem dX0_sum_1 : decode cX0_sum 1 = .ok (.invokestatic 60, 3) := by decide +kernel
theorem dX0_sum_4 : decode cX0_sum 4 = .ok (.aload_n 0, 1) := by decide +kernel
theorem dX0_sum_5 : decode cX0_sum 5 = .ok (.invokevirtual 75, 3) := by decide +kernel
theorem dX0_sum_8 : decode cX0_sum 8 = .ok (.istore_n 2, 1) := by decide +kernel
theorem dX0_sum_9 : decode cX0_sum 9 = .ok (.aload_n 0, 1) := by decide +kernel
theorem dX0_sum_10 : decode cX0_sum 10 = .ok (.iload_n 1, 1) := by decide +kernel
theorem dX0_sum_11 : decode cX0_sum 11 = .ok (.iconst 0, 1) := by decide +kernel
theorem dX0_sum_12 : decode cX0_sum 12 = .ok (.iload_n 2, 1) := by decide +kernel
theorem dX0_sum_13 : decode cX0_sum 13 = .ok (.invokevirtual 88, 3) := by decide +kernel
theorem dX0_sum_16 : decode cX0_sum 16 = .ok (.lreturn, 1) := by decide +kernel
theorem dX0_bound_0 : decode cX0_bound 0 = .ok (.iload_n 1, 1) := by decide +kernel
theorem dX0_bound_1 : decode cX0_bound 1 = .ok (.invokestatic 60, 3) := by decide +kernel
theorem dX0_bound_4 : decode cX0_bound 4 = .ok (.aload_n 0, 1) := by decide +kernel
theorem dX0_bound_5 : decode cX0_bound 5 = .ok (.invokevirtual 75, 3) := by decide +kernel
theorem dX0_bound_8 : decode cX0_bound 8 = .ok (.istore_n 3, 1) := by decide +kernel
theorem dX0_bound_9 : decode cX0_bound 9 = .ok (.iload_n 3, 1) := by decide +kernel
theorem dX0_bound_10 : decode cX0_bound 10 = .ok (.ifCond .ne 13, 3) := by decide +kernel
theorem dX0_bound_13 : decode cX0_bound 13 = .ok (.new 92, 3) := by decide +kernel
theorem dX0_bound_16 : decode cX0_bound 16 = .ok (.dup, 1) := by decide +kernel
theorem dX0_bound_17 : decode cX0_bound 17 = .ok (.ldc 94, 2) := by decide +kernel
theorem dX0_bound_19 : decode cX0_bound 19 = .ok (.invokespecial 96, 3) := by decide +kernel
theorem dX0_bound_22 : decode cX0_bound 22 = .ok (.athrow, 1) := by decide +kernel
theorem dX0_bound_23 : decode cX0_bound 23 = .ok (.aload_n 0, 1) := by decide +kernel
theorem dX0_bound_24 : decode cX0_bound 24 = .ok (.iload_n 1, 1) := by decide +kernel
theorem dX0_bound_25 : decode cX0_bound 25 = .ok (.iload_n 2, 1) := by decide +kernel
theorem dX0_bound_26 : decode cX0_bound 26 = .ok (.iconst 0, 1) := by decide +kernel
theorem dX0_bound_27 : decode cX0_bound 27 = .ok (.iload_n 3, 1) := by decide +kernel
theorem dX0_bound_28 : decode cX0_bound 28 = .ok (.invokevirtual 97, 3) := by decide +kernel
theorem dX0_bound_31 : decode cX0_bound 31 = .ok (.lreturn, 1) := by decide +kernel
theorem dX0_ranked_0 : decode cX0_ranked 0 = .ok (.iload_n 1, 1) := by decide +kernel
theorem dX0_ranked_1 : decode cX0_ranked 1 = .ok (.invokestatic 60, 3) := by decide +kernel
theorem dX0_ranked_4 : decode cX0_ranked 4 = .ok (.aload_n 0, 1) := by decide +kernel
theorem dX0_ranked_5 : decode cX0_ranked 5 = .ok (.invokevirtual 75, 3) := by decide +kernel
theorem dX0_ranked_8 : decode cX0_ranked 8 = .ok (.istore_n 3, 1) := by decide +kernel
theorem dX0_ranked_9 : decode cX0_ranked 9 = .ok (.iload_n 2, 1) := by decide +kernel
theorem dX0_ranked_10 : decode cX0_ranked 10 = .ok (.ifCond .lt 8, 3) := by decide +kernel
theorem dX0_ranked_13 : decode cX0_ranked 13 = .ok (.iload_n 2, 1) := by decide +kernel
theorem dX0_ranked_14 : decode cX0_ranked 14 = .ok (.iload_n 3, 1) := by decide +kernel
theorem dX0_ranked_15 : decode cX0_ranked 15 = .ok (.if_icmp .lt 13, 3) := by decide +kernel
theorem dX0_ranked_18 : decode cX0_ranked 18 = .ok (.new 63, 3) := by decide +kernel
theorem dX0_ranked_21 : decode cX0_ranked 21 = .ok (.dup, 1) := by decide +kernel
theorem dX0_ranked_22 : decode cX0_ranked 22 = .ok (.ldc 79, 2) := by decide +kernel
theorem dX0_ranked_24 : decode cX0_ranked 24 = .ok (.invokespecial 67, 3) := by decide +kernel
theorem dX0_ranked_27 : decode cX0_ranked 27 = .ok (.athrow, 1) := by decide +kernel
theorem dX0_ranked_28 : decode cX0_ranked 28 = .ok (.aload_n 0, 1) := by decide +kernel
theorem dX0_ranked_29 : decode cX0_ranked 29 = .ok (.iload_n 3, 1) := by decide +kernel
theorem dX0_ranked_30 : decode cX0_ranked 30 = .ok (.iload_n 1, 1) := by decide +kernel
theorem dX0_ranked_31 : decode cX0_ranked 31 = .ok (.iconst 1, 1) := by decide +kernel
theorem dX0_ranked_32 : decode cX0_ranked 32 = .ok (.invokevirtual 101, 3) := by decide +kernel
theorem dX0_ranked_35 : decode cX0_ranked 35 = .ok (.aload_n 0, 1) := by decide +kernel
theorem dX0_ranked_36 : decode cX0_ranked 36 = .ok (.getfield 42, 3) := by decide +kernel
theorem dX0_ranked_39 : decode cX0_ranked 39 = .ok (.iload_n 2, 1) := by decide +kernel
theorem dX0_ranked_40 : decode cX0_ranked 40 = .ok (.iaload, 1) := by decide +kernel
theorem dX0_ranked_41 : decode cX0_ranked 41 = .ok (.ireturn, 1) := by decide +kernel
theorem dX0_groups_0 : decode cX0_groups 0 = .ok (.iload_n 1, 1) := by decide +kernel
theorem dX0_groups_1 : decode cX0_groups 1 = .ok (.invokestatic 60, 3) := by decide +kernel
theorem dX0_groups_4 : decode cX0_groups 4 = .ok (.aload_n 0, 1) := by decide +kernel
theorem dX0_groups_5 : decode cX0_groups 5 = .ok (.invokevirtual 75, 3) := by decide +kernel
theorem dX0_groups_8 : decode cX0_groups 8 = .ok (.istore_n 2, 1) := by decide +kernel
theorem dX0_groups_9 : decode cX0_groups 9 = .ok (.aload_n 0, 1) := by decide +kernel
theorem dX0_groups_10 : decode cX0_groups 10 = .ok (.iload_n 2, 1) := by decide +kernel
theorem dX0_groups_11 : decode cX0_groups 11 = .ok (.iload_n 1, 1) := by decide +kernel
theorem dX0_groups_12 : decode cX0_groups 12 = .ok (.iconst 0, 1) := by decide +kernel
theorem dX0_groups_13 : decode cX0_groups 13 = .ok (.invokevirtual 101, 3) := by decide +kernel
theorem dX0_groups_16 : decode cX0_groups 16 = .ok (.iconst 0, 1) := by decide +kernel
theorem dX0_groups_17 : decode cX0_groups 17 = .ok (.istore_n 3, 1) := by decide +kernel
theorem dX0_groups_18 : decode cX0_groups 18 = .ok (.iconst 0, 1) := by decide +kernel
theorem dX0_groups_19 : decode cX0_groups 19 = .ok (.istore 4, 2) := by decide +kernel
theorem dX0_groups_21 : decode cX0_groups 21 = .ok (.iload 4, 2) := by decide +kernel
theorem dX0_groups_23 : decode cX0_groups 23 = .ok (.iload_n 2, 1) := by decide +kernel
theorem dX0_groups_24 : decode cX0_groups 24 = .ok (.if_icmp .ge 22, 3) := by decide +kernel
theorem dX0_groups_27 : decode cX0_groups 27 = .ok (.aload_n 0, 1) := by decide +kernel
theorem dX0_groups_28 : decode cX0_groups 28 = .ok (.iload 4, 2) := by decide +kernel
theorem dX0_groups_30 : decode cX0_groups 30 = .ok (.iload_n 1, 1) := by decide +kernel
theorem dX0_groups_31 : decode cX0_groups 31 = .ok (.invokevirtual 105, 3) := by decide +kernel
theorem dX0_groups_34 : decode cX0_groups 34 = .ok (.ifCond .eq 6, 3) := by decide +kernel
theorem dX0_groups_37 : decode cX0_groups 37 = .ok (.iinc 3 1, 3) := by decide +kernel
theorem dX0_groups_40 : decode cX0_groups 40 = .ok (.iinc 4 1, 3) := by decide +kernel
theorem dX0_groups_43 : decode cX0_groups 43 = .ok (.goto (-22), 3) := by decide +kernel
theorem dX0_groups_46 : decode cX0_groups 46 = .ok (.iload_n 3, 1) := by decide +kernel
theorem dX0_groups_47 : decode cX0_groups 47 = .ok (.ireturn, 1) := by decide +kernel
theorem dX0_group_0 : decode cX0_group 0 = .ok (.iload_n 1, 1) := by decide +kernel
theorem dX0_group_1 : decode cX0_group 1 = .ok (.invokestatic 60, 3) := by decide +kernel
theorem dX0_group_4 : decode cX0_group 4 = .ok (.iload 4, 2) := by decide +kernel
theorem dX0_group_6 : decode cX0_group 6 = .ok (.invokestatic 60, 3) := by decide +kernel
theorem dX0_group_9 : decode cX0_group 9 = .ok (.iload_n 3, 1) := by decide +kernel
theorem dX0_group_10 : decode cX0_group 10 = .ok (.ifCond .lt 8, 3) := by decide +kernel
theorem dX0_group_13 : decode cX0_group 13 = .ok (.iload_n 3, 1) := by decide +kernel
theorem dX0_group_14 : decode cX0_group 14 = .ok (.iconst 4, 1) := by decide +kernel
theorem dX0_group_15 : decode cX0_group 15 = .ok (.if_icmp .le 13, 3) := by decide +kernel
theorem dX0_group_18 : decode cX0_group 18 = .ok (.new 68, 3) := by decide +kernel
theorem dX0_group_21 : decode cX0_group 21 = .ok (.dup, 1) := by decide +kernel
theorem dX0_group_22 : decode cX0_group 22 = .ok (.ldc 109, 2) := by decide +kernel
theorem dX0_group_24 : decode cX0_group 24 = .ok (.invokespecial 72, 3) := by decide +kernel
theorem dX0_group_27 : decode cX0_group 27 = .ok (.athrow, 1) := by decide +kernel
theorem dX0_group_28 : decode cX0_group 28 = .ok (.aload_n 0, 1) := by decide +kernel
theorem dX0_group_29 : decode cX0_group 29 = .ok (.invokevirtual 75, 3) := by decide +kernel
theorem dX0_group_32 : decode cX0_group 32 = .ok (.istore 5, 2) := by decide +kernel
theorem dX0_group_34 : decode cX0_group 34 = .ok (.aload_n 0, 1) := by decide +kernel
theorem dX0_group_35 : decode cX0_group 35 = .ok (.iload 5, 2) := by decide +kernel
theorem dX0_group_37 : decode cX0_group 37 = .ok (.iload_n 1, 1) := by decide +kernel
theorem dX0_group_38 : decode cX0_group 38 = .ok (.iconst 0, 1) := by decide +kernel
theorem dX0_group_39 : decode cX0_group 39 = .ok (.invokevirtual 101, 3) := by decide +kernel
theorem dX0_group_42 : decode cX0_group 42 = .ok (.aload_n 0, 1) := by decide +kernel
theorem dX0_group_43 : decode cX0_group 43 = .ok (.iload_n 2, 1) := by decide +kernel
theorem dX0_group_44 : decode cX0_group 44 = .ok (.iload_n 1, 1) := by decide +kernel
theorem dX0_group_45 : decode cX0_group 45 = .ok (.iload 5, 2) := by decide +kernel
theorem dX0_group_47 : decode cX0_group 47 = .ok (.invokevirtual 111, 3) := by decide +kernel
theorem dX0_group_50 : decode cX0_group 50 = .ok (.istore 6, 2) := by decide +kernel
theorem dX0_group_52 : decode cX0_group 52 = .ok (.iload 6, 2) := by decide +kernel
theorem dX0_group_54 : decode cX0_group 54 = .ok (.ifCond .ge 13, 3) := by decide +kernel
theorem dX0_group_57 : decode cX0_group 57 = .ok (.new 63, 3) := by decide +kernel
theorem dX0_group_60 : decode cX0_group 60 = .ok (.dup, 1) := by decide +kernel
theorem dX0_group_61 : decode cX0_group 61 = .ok (.ldc 115, 2) := by decide +kernel
theorem dX0_group_63 : decode cX0_group 63 = .ok (.invokespecial 67, 3) := by decide +kernel
theorem dX0_group_66 : decode cX0_group 66 = .ok (.athrow, 1) := by decide +kernel
theorem dX0_group_67 : decode cX0_group 67 = .ok (.aload_n 0, 1) := by decide +kernel
theorem dX0_group_68 : decode cX0_group 68 = .ok (.iload 6, 2) := by decide +kernel
theorem dX0_group_70 : decode cX0_group 70 = .ok (.iload_n 1, 1) := by decide +kernel
theorem dX0_group_71 : decode cX0_group 71 = .ok (.iload 5, 2) := by decide +kernel
theorem dX0_group_73 : decode cX0_group 73 = .ok (.invokevirtual 117, 3) := by decide +kernel
theorem dX0_group_76 : decode cX0_group 76 = .ok (.istore 7, 2) := by decide +kernel
theorem dX0_group_78 : decode cX0_group 78 = .ok (.iload_n 3, 1) := by decide +kernel
theorem dX0_group_79 : decode cX0_group 79 = .ok (.tableswitch 76 0 3 #[29, 46, 53, 64], 29) := by decide +kernel
theorem dX0_group_108 : decode cX0_group 108 = .ok (.aload_n 0, 1) := by decide +kernel
theorem dX0_group_109 : decode cX0_group 109 = .ok (.getfield 9, 3) := by decide +kernel
theorem dX0_group_112 : decode cX0_group 112 = .ok (.aload_n 0, 1) := by decide +kernel
theorem dX0_group_113 : decode cX0_group 113 = .ok (.getfield 42, 3) := by decide +kernel
theorem dX0_group_116 : decode cX0_group 116 = .ok (.iload 6, 2) := by decide +kernel
theorem dX0_group_118 : decode cX0_group 118 = .ok (.iaload, 1) := by decide +kernel
theorem dX0_group_119 : decode cX0_group 119 = .ok (.iload_n 1, 1) := by decide +kernel
theorem dX0_group_120 : decode cX0_group 120 = .ok (.invokestatic 52, 3) := by decide +kernel
theorem dX0_group_123 : decode cX0_group 123 = .ok (.laload, 1) := by decide +kernel
theorem dX0_group_124 : decode cX0_group 124 = .ok (.lreturn, 1) := by decide +kernel
theorem dX0_group_125 : decode cX0_group 125 = .ok (.iload 7, 2) := by decide +kernel
theorem dX0_group_127 : decode cX0_group 127 = .ok (.iload 6, 2) := by decide +kernel
theorem dX0_group_129 : decode cX0_group 129 = .ok (.isub, 1) := by decide +kernel
theorem dX0_group_130 : decode cX0_group 130 = .ok (.i2l, 1) := by decide +kernel
theorem dX0_group_131 : decode cX0_group 131 = .ok (.lreturn, 1) := by decide +kernel
theorem dX0_group_132 : decode cX0_group 132 = .ok (.aload_n 0, 1) := by decide +kernel
theorem dX0_group_133 : decode cX0_group 133 = .ok (.iload 4, 2) := by decide +kernel
theorem dX0_group_135 : decode cX0_group 135 = .ok (.iload 6, 2) := by decide +kernel
theorem dX0_group_137 : decode cX0_group 137 = .ok (.iload 7, 2) := by decide +kernel
theorem dX0_group_139 : decode cX0_group 139 = .ok (.invokevirtual 88, 3) := by decide +kernel
theorem dX0_group_142 : decode cX0_group 142 = .ok (.lreturn, 1) := by decide +kernel
theorem dX0_group_143 : decode cX0_group 143 = .ok (.aload_n 0, 1) := by decide +kernel
theorem dX0_group_144 : decode cX0_group 144 = .ok (.iload 4, 2) := by decide +kernel
theorem dX0_group_146 : decode cX0_group 146 = .ok (.iconst 0, 1) := by decide +kernel
theorem dX0_group_147 : decode cX0_group 147 = .ok (.iload 6, 2) := by decide +kernel
theorem dX0_group_149 : decode cX0_group 149 = .ok (.iload 7, 2) := by decide +kernel
theorem dX0_group_151 : decode cX0_group 151 = .ok (.invokevirtual 97, 3) := by decide +kernel
theorem dX0_group_154 : decode cX0_group 154 = .ok (.lreturn, 1) := by decide +kernel
theorem dX0_group_155 : decode cX0_group 155 = .ok (.aload_n 0, 1) := by decide +kernel
theorem dX0_group_156 : decode cX0_group 156 = .ok (.iload 4, 2) := by decide +kernel
theorem dX0_group_158 : decode cX0_group 158 = .ok (.iconst 1, 1) := by decide +kernel
theorem dX0_group_159 : decode cX0_group 159 = .ok (.iload 6, 2) := by decide +kernel
theorem dX0_group_161 : decode cX0_group 161 = .ok (.iload 7, 2) := by decide +kernel
theorem dX0_group_163 : decode cX0_group 163 = .ok (.invokevirtual 97, 3) := by decide +kernel
theorem dX0_group_166 : decode cX0_group 166 = .ok (.lreturn, 1) := by decide +kernel
theorem dX0_pairs_0 : decode cX0_pairs 0 = .ok (.iload_n 1, 1) := by decide +kernel
theorem dX0_pairs_1 : decode cX0_pairs 1 = .ok (.invokestatic 60, 3) := by decide +kernel
theorem dX0_pairs_4 : decode cX0_pairs 4 = .ok (.iload_n 2, 1) := by decide +kernel
theorem dX0_pairs_5 : decode cX0_pairs 5 = .ok (.invokestatic 60, 3) := by decide +kernel
theorem dX0_pairs_8 : decode cX0_pairs 8 = .ok (.aload_n 0, 1) := by decide +kernel
theorem dX0_pairs_9 : decode cX0_pairs 9 = .ok (.invokevirtual 75, 3) := by decide +kernel
theorem dX0_pairs_12 : decode cX0_pairs 12 = .ok (.istore_n 3, 1) := by decide +kernel
theorem dX0_pairs_13 : decode cX0_pairs 13 = .ok (.iconst 0, 1) := by decide +kernel
theorem dX0_pairs_14 : decode cX0_pairs 14 = .ok (.istore 4, 2) := by decide +kernel
theorem dX0_pairs_16 : decode cX0_pairs 16 = .ok (.iconst 1, 1) := by decide +kernel
theorem dX0_pairs_17 : decode cX0_pairs 17 = .ok (.istore 5, 2) := by decide +kernel
theorem dX0_pairs_19 : decode cX0_pairs 19 = .ok (.iload 5, 2) := by decide +kernel
theorem dX0_pairs_21 : decode cX0_pairs 21 = .ok (.iload_n 3, 1) := by decide +kernel
theorem dX0_pairs_22 : decode cX0_pairs 22 = .ok (.if_icmp .ge 68, 3) := by decide +kernel
theorem dX0_pairs_25 : decode cX0_pairs 25 = .ok (.aload_n 0, 1) := by decide +kernel
theorem dX0_pairs_26 : decode cX0_pairs 26 = .ok (.getfield 9, 3) := by decide +kernel
theorem dX0_pairs_29 : decode cX0_pairs 29 = .ok (.aload_n 0, 1) := by decide +kernel
theorem dX0_pairs_30 : decode cX0_pairs 30 = .ok (.getfield 42, 3) := by decide +kernel
theorem dX0_pairs_33 : decode cX0_pairs 33 = .ok (.iload 5, 2) := by decide +kernel
theorem dX0_pairs_35 : decode cX0_pairs 35 = .ok (.iaload, 1) := by decide +kernel
theorem dX0_pairs_36 : decode cX0_pairs 36 = .ok (.iload_n 2, 1) := by decide +kernel
theorem dX0_pairs_37 : decode cX0_pairs 37 = .ok (.invokestatic 52, 3) := by decide +kernel
theorem dX0_pairs_40 : decode cX0_pairs 40 = .ok (.laload, 1) := by decide +kernel
theorem dX0_pairs_41 : decode cX0_pairs 41 = .ok (.lstore 6, 2) := by decide +kernel
theorem dX0_pairs_43 : decode cX0_pairs 43 = .ok (.iconst 0, 1) := by decide +kernel
theorem dX0_pairs_44 : decode cX0_pairs 44 = .ok (.istore 8, 2) := by decide +kernel
theorem dX0_pairs_46 : decode cX0_pairs 46 = .ok (.iload 8, 2) := by decide +kernel
theorem dX0_pairs_48 : decode cX0_pairs 48 = .ok (.iload 5, 2) := by decide +kernel
theorem dX0_pairs_50 : decode cX0_pairs 50 = .ok (.if_icmp .ge 34, 3) := by decide +kernel
theorem dX0_pairs_53 : decode cX0_pairs 53 = .ok (.aload_n 0, 1) := by decide +kernel
theorem dX0_pairs_54 : decode cX0_pairs 54 = .ok (.getfield 9, 3) := by decide +kernel
theorem dX0_pairs_57 : decode cX0_pairs 57 = .ok (.aload_n 0, 1) := by decide +kernel
theorem dX0_pairs_58 : decode cX0_pairs 58 = .ok (.getfield 42, 3) := by decide +kernel
theorem dX0_pairs_61 : decode cX0_pairs 61 = .ok (.iload 8, 2) := by decide +kernel
theorem dX0_pairs_63 : decode cX0_pairs 63 = .ok (.iaload, 1) := by decide +kernel
theorem dX0_pairs_64 : decode cX0_pairs 64 = .ok (.iload_n 1, 1) := by decide +kernel
theorem dX0_pairs_65 : decode cX0_pairs 65 = .ok (.invokestatic 52, 3) := by decide +kernel
theorem dX0_pairs_68 : decode cX0_pairs 68 = .ok (.laload, 1) := by decide +kernel
theorem dX0_pairs_69 : decode cX0_pairs 69 = .ok (.lload 6, 2) := by decide +kernel
theorem dX0_pairs_71 : decode cX0_pairs 71 = .ok (.lcmp, 1) := by decide +kernel
theorem dX0_pairs_72 : decode cX0_pairs 72 = .ok (.ifCond .ne 6, 3) := by decide +kernel
theorem dX0_pairs_75 : decode cX0_pairs 75 = .ok (.iinc 4 1, 3) := by decide +kernel
theorem dX0_pairs_78 : decode cX0_pairs 78 = .ok (.iinc 8 1, 3) := by decide +kernel
theorem dX0_pairs_81 : decode cX0_pairs 81 = .ok (.goto (-35), 3) := by decide +kernel
theorem dX0_pairs_84 : decode cX0_pairs 84 = .ok (.iinc 5 1, 3) := by decide +kernel
theorem dX0_pairs_87 : decode cX0_pairs 87 = .ok (.goto (-68), 3) := by decide +kernel
theorem dX0_pairs_90 : decode cX0_pairs 90 = .ok (.iload 4, 2) := by decide +kernel
theorem dX0_pairs_92 : decode cX0_pairs 92 = .ok (.ireturn, 1) := by decide +kernel
theorem dX0_way_0 : decode cX0_way 0 = .ok (.iload_n 2, 1) := by decide +kernel
theorem dX0_way_1 : decode cX0_way 1 = .ok (.invokestatic 60, 3) := by decide +kernel
theorem dX0_way_4 : decode cX0_way 4 = .ok (.aload_n 0, 1) := by decide +kernel
theorem dX0_way_5 : decode cX0_way 5 = .ok (.iload_n 1, 1) := by decide +kernel
theorem dX0_way_6 : decode cX0_way 6 = .ok (.invokevirtual 120, 3) := by decide +kernel
theorem dX0_way_9 : decode cX0_way 9 = .ok (.aload_n 0, 1) := by decide +kernel
theorem dX0_way_10 : decode cX0_way 10 = .ok (.getfield 36, 3) := by decide +kernel
theorem dX0_way_13 : decode cX0_way 13 = .ok (.iload_n 1, 1) := by decide +kernel
theorem dX0_way_14 : decode cX0_way 14 = .ok (.iload_n 2, 1) := by decide +kernel
theorem dX0_way_15 : decode cX0_way 15 = .ok (.invokestatic 123, 3) := by decide +kernel
theorem dX0_way_18 : decode cX0_way 18 = .ok (.iaload, 1) := by decide +kernel
theorem dX0_way_19 : decode cX0_way 19 = .ok (.ireturn, 1) := by decide +kernel
theorem dX0_bits_0 : decode cX0_bits 0 = .ok (.iload_n 2, 1) := by decide +kernel
theorem dX0_bits_1 : decode cX0_bits 1 = .ok (.invokestatic 60, 3) := by decide +kernel
theorem dX0_bits_4 : decode cX0_bits 4 = .ok (.aload_n 0, 1) := by decide +kernel
theorem dX0_bits_5 : decode cX0_bits 5 = .ok (.iload_n 1, 1) := by decide +kernel
theorem dX0_bits_6 : decode cX0_bits 6 = .ok (.invokevirtual 120, 3) := by decide +kernel
theorem dX0_bits_9 : decode cX0_bits 9 = .ok (.aload_n 0, 1) := by decide +kernel
theorem dX0_bits_10 : decode cX0_bits 10 = .ok (.getfield 39, 3) := by decide +kernel
theorem dX0_bits_13 : decode cX0_bits 13 = .ok (.iload_n 1, 1) := by decide +kernel
theorem dX0_bits_14 : decode cX0_bits 14 = .ok (.iload_n 2, 1) := by decide +kernel
theorem dX0_bits_15 : decode cX0_bits 15 = .ok (.invokestatic 123, 3) := by decide +kernel
theorem dX0_bits_18 : decode cX0_bits 18 = .ok (.iaload, 1) := by decide +kernel
theorem dX0_bits_19 : decode cX0_bits 19 = .ok (.ireturn, 1) := by decide +kernel
theorem dX0_purge_0 : decode cX0_purge 0 = .ok (.aload_n 0, 1) := by decide +kernel
theorem dX0_purge_1 : decode cX0_purge 1 = .ok (.invokevirtual 75, 3) := by decide +kernel
theorem dX0_purge_4 : decode cX0_purge 4 = .ok (.istore_n 1, 1) := by decide +kernel
theorem dX0_purge_5 : decode cX0_purge 5 = .ok (.iconst 0, 1) := by decide +kernel
theorem dX0_purge_6 : decode cX0_purge 6 = .ok (.istore_n 2, 1) := by decide +kernel
theorem dX0_purge_7 : decode cX0_purge 7 = .ok (.iconst 0, 1) := by decide +kernel
theorem dX0_purge_8 : decode cX0_purge 8 = .ok (.istore_n 3, 1) := by decide +kernel
theorem dX0_purge_9 : decode cX0_purge 9 = .ok (.iconst 0, 1) := by decide +kernel
theorem dX0_purge_10 : decode cX0_purge 10 = .ok (.istore 4, 2) := by decide +kernel
theorem dX0_purge_12 : decode cX0_purge 12 = .ok (.iload 4, 2) := by decide +kernel
theorem dX0_purge_14 : decode cX0_purge 14 = .ok (.aload_n 0, 1) := by decide +kernel
theorem dX0_purge_15 : decode cX0_purge 15 = .ok (.getfield 13, 3) := by decide +kernel
theorem dX0_purge_18 : decode cX0_purge 18 = .ok (.if_icmp .ge 41, 3) := by decide +kernel
theorem dX0_purge_21 : decode cX0_purge 21 = .ok (.iload_n 3, 1) := by decide +kernel
theorem dX0_purge_22 : decode cX0_purge 22 = .ok (.iload_n 1, 1) := by decide +kernel
theorem dX0_purge_23 : decode cX0_purge 23 = .ok (.if_icmp .ge 20, 3) := by decide +kernel
theorem dX0_purge_26 : decode cX0_purge 26 = .ok (.aload_n 0, 1) := by decide +kernel
theorem dX0_purge_27 : decode cX0_purge 27 = .ok (.getfield 42, 3) := by decide +kernel
theorem dX0_purge_30 : decode cX0_purge 30 = .ok (.iload_n 3, 1) := by decide +kernel
theorem dX0_purge_31 : decode cX0_purge 31 = .ok (.iaload, 1) := by decide +kernel
theorem dX0_purge_32 : decode cX0_purge 32 = .ok (.iload 4, 2) := by decide +kernel
theorem dX0_purge_34 : decode cX0_purge 34 = .ok (.if_icmp .ne 9, 3) := by decide +kernel
theorem dX0_purge_37 : decode cX0_purge 37 = .ok (.iinc 3 1, 3) := by decide +kernel
theorem dX0_purge_40 : decode cX0_purge 40 = .ok (.goto 13, 3) := by decide +kernel
theorem dX0_purge_43 : decode cX0_purge 43 = .ok (.aload_n 0, 1) := by decide +kernel
theorem dX0_purge_44 : decode cX0_purge 44 = .ok (.iload 4, 2) := by decide +kernel
theorem dX0_purge_46 : decode cX0_purge 46 = .ok (.iload_n 2, 1) := by decide +kernel
theorem dX0_purge_47 : decode cX0_purge 47 = .ok (.invokevirtual 126, 3) := by decide +kernel
theorem dX0_purge_50 : decode cX0_purge 50 = .ok (.iinc 2 1, 3) := by decide +kernel
theorem dX0_purge_53 : decode cX0_purge 53 = .ok (.iinc 4 1, 3) := by decide +kernel
theorem dX0_purge_56 : decode cX0_purge 56 = .ok (.goto (-44), 3) := by decide +kernel
theorem dX0_purge_59 : decode cX0_purge 59 = .ok (.aload_n 0, 1) := by decide +kernel
theorem dX0_purge_60 : decode cX0_purge 60 = .ok (.iload_n 2, 1) := by decide +kernel
theorem dX0_purge_61 : decode cX0_purge 61 = .ok (.putfield 13, 3) := by decide +kernel
theorem dX0_purge_64 : decode cX0_purge 64 = .ok (.aload_n 0, 1) := by decide +kernel
theorem dX0_purge_65 : decode cX0_purge 65 = .ok (.invokevirtual 130, 3) := by decide +kernel
theorem dX0_purge_68 : decode cX0_purge 68 = .ok (.iload_n 1, 1) := by decide +kernel
theorem dX0_purge_69 : decode cX0_purge 69 = .ok (.ireturn, 1) := by decide +kernel
theorem dX0_refuseBadColumn_0 : decode cX0_refuseBadColumn 0 = .ok (.iload_n 0, 1) := by decide +kernel
theorem dX0_refuseBadColumn_1 : decode cX0_refuseBadColumn 1 = .ok (.ifCond .lt 8, 3) := by decide +kernel
theorem dX0_refuseBadColumn_4 : decode cX0_refuseBadColumn 4 = .ok (.iload_n 0, 1) := by decide +kernel
theorem dX0_refuseBadColumn_5 : decode cX0_refuseBadColumn 5 = .ok (.iconst 4, 1) := by decide +kernel
theorem dX0_refuseBadColumn_6 : decode cX0_refuseBadColumn 6 = .ok (.if_icmp .lt 13, 3) := by decide +kernel
theorem dX0_refuseBadColumn_9 : decode cX0_refuseBadColumn 9 = .ok (.new 68, 3) := by decide +kernel
theorem dX0_refuseBadColumn_12 : decode cX0_refuseBadColumn 12 = .ok (.dup, 1) := by decide +kernel
theorem dX0_refuseBadColumn_13 : decode cX0_refuseBadColumn 13 = .ok (.ldc 133, 2) := by decide +kernel
theorem dX0_refuseBadColumn_15 : decode cX0_refuseBadColumn 15 = .ok (.invokespecial 72, 3) := by decide +kernel
theorem dX0_refuseBadColumn_18 : decode cX0_refuseBadColumn 18 = .ok (.athrow, 1) := by decide +kernel
theorem dX0_refuseBadColumn_19 : decode cX0_refuseBadColumn 19 = .ok (.return_, 1) := by decide +kernel
theorem dX0_refuseUnpackedBlock_0 : decode cX0_refuseUnpackedBlock 0 = .ok (.iload_n 1, 1) := by decide +kernel
theorem dX0_refuseUnpackedBlock_1 : decode cX0_refuseUnpackedBlock 1 = .ok (.ifCond .lt 11, 3) := by decide +kernel
theorem dX0_refuseUnpackedBlock_4 : decode cX0_refuseUnpackedBlock 4 = .ok (.iload_n 1, 1) := by decide +kernel
theorem dX0_refuseUnpackedBlock_5 : decode cX0_refuseUnpackedBlock 5 = .ok (.aload_n 0, 1) := by decide +kernel
theorem dX0_refuseUnpackedBlock_6 : decode cX0_refuseUnpackedBlock 6 = .ok (.invokevirtual 135, 3) := by decide +kernel
theorem dX0_refuseUnpackedBlock_9 : decode cX0_refuseUnpackedBlock 9 = .ok (.if_icmp .lt 13, 3) := by decide +kernel
theorem dX0_refuseUnpackedBlock_12 : decode cX0_refuseUnpackedBlock 12 = .ok (.new 63, 3) := by decide +kernel
theorem dX0_refuseUnpackedBlock_15 : decode cX0_refuseUnpackedBlock 15 = .ok (.dup, 1) := by decide +kernel
theorem dX0_refuseUnpackedBlock_16 : decode cX0_refuseUnpackedBlock 16 = .ok (.ldc 138, 2) := by decide +kernel
theorem dX0_refuseUnpackedBlock_18 : decode cX0_refuseUnpackedBlock 18 = .ok (.invokespecial 67, 3) := by decide +kernel
theorem dX0_refuseUnpackedBlock_21 : decode cX0_refuseUnpackedBlock 21 = .ok (.athrow, 1) := by decide +kernel
theorem dX0_refuseUnpackedBlock_22 : decode cX0_refuseUnpackedBlock 22 = .ok (.return_, 1) := by decide +kernel
theorem dX0_spot_0 : decode cX0_spot 0 = .ok (.iload_n 1, 1) := by decide +kernel
theorem dX0_spot_1 : decode cX0_spot 1 = .ok (.sipush 128, 3) := by decide +kernel
theorem dX0_spot_4 : decode cX0_spot 4 = .ok (.imul, 1) := by decide +kernel
theorem dX0_spot_5 : decode cX0_spot 5 = .ok (.iload_n 0, 1) := by decide +kernel
theorem dX0_spot_6 : decode cX0_spot 6 = .ok (.iadd, 1) := by decide +kernel
theorem dX0_spot_7 : decode cX0_spot 7 = .ok (.ireturn, 1) := by decide +kernel
theorem dX0_place_0 : decode cX0_place 0 = .ok (.iload_n 0, 1) := by decide +kernel
theorem dX0_place_1 : decode cX0_place 1 = .ok (.iconst 4, 1) := by decide +kernel
theorem dX0_place_2 : decode cX0_place 2 = .ok (.imul, 1) := by decide +kernel
theorem dX0_place_3 : decode cX0_place 3 = .ok (.iload_n 1, 1) := by decide +kernel
theorem dX0_place_4 : decode cX0_place 4 = .ok (.iadd, 1) := by decide +kernel
theorem dX0_place_5 : decode cX0_place 5 = .ok (.ireturn, 1) := by decide +kernel
theorem dX0_fullBlocks_0 : decode cX0_fullBlocks 0 = .ok (.aload_n 0, 1) := by decide +kernel
theorem dX0_fullBlocks_1 : decode cX0_fullBlocks 1 = .ok (.getfield 13, 3) := by decide +kernel
theorem dX0_fullBlocks_4 : decode cX0_fullBlocks 4 = .ok (.bipush 16, 2) := by decide +kernel
theorem dX0_fullBlocks_6 : decode cX0_fullBlocks 6 = .ok (.idiv, 1) := by decide +kernel
theorem dX0_fullBlocks_7 : decode cX0_fullBlocks 7 = .ok (.ireturn, 1) := by decide +kernel
theorem dX0_startedBlocks_0 : decode cX0_startedBlocks 0 = .ok (.aload_n 0, 1) := by decide +kernel
theorem dX0_startedBlocks_1 : decode cX0_startedBlocks 1 = .ok (.getfield 13, 3) := by decide +kernel
theorem dX0_startedBlocks_4 : decode cX0_startedBlocks 4 = .ok (.bipush 16, 2) := by decide +kernel
theorem dX0_startedBlocks_6 : decode cX0_startedBlocks 6 = .ok (.iadd, 1) := by decide +kernel
theorem dX0_startedBlocks_7 : decode cX0_startedBlocks 7 = .ok (.iconst 1, 1) := by decide +kernel
theorem dX0_startedBlocks_8 : decode cX0_startedBlocks 8 = .ok (.isub, 1) := by decide +kernel
theorem dX0_startedBlocks_9 : decode cX0_startedBlocks 9 = .ok (.bipush 16, 2) := by decide +kernel
theorem dX0_startedBlocks_11 : decode cX0_startedBlocks 11 = .ok (.idiv, 1) := by decide +kernel
theorem dX0_startedBlocks_12 : decode cX0_startedBlocks 12 = .ok (.ireturn, 1) := by decide +kernel
theorem dX0_moveRow_0 : decode cX0_moveRow 0 = .ok (.iconst 0, 1) := by decide +kernel
theorem dX0_moveRow_1 : decode cX0_moveRow 1 = .ok (.istore_n 3, 1) := by decide +kernel
theorem dX0_moveRow_2 : decode cX0_moveRow 2 = .ok (.iload_n 3, 1) := by decide +kernel
theorem dX0_moveRow_3 : decode cX0_moveRow 3 = .ok (.iconst 4, 1) := by decide +kernel
theorem dX0_moveRow_4 : decode cX0_moveRow 4 = .ok (.if_icmp .ge 29, 3) := by decide +kernel
theorem dX0_moveRow_7 : decode cX0_moveRow 7 = .ok (.aload_n 0, 1) := by decide +kernel
theorem dX0_moveRow_8 : decode cX0_moveRow 8 = .ok (.getfield 9, 3) := by decide +kernel
theorem dX0_moveRow_11 : decode cX0_moveRow 11 = .ok (.iload_n 2, 1) := by decide +kernel
theorem dX0_moveRow_12 : decode cX0_moveRow 12 = .ok (.iload_n 3, 1) := by decide +kernel
theorem dX0_moveRow_13 : decode cX0_moveRow 13 = .ok (.invokestatic 52, 3) := by decide +kernel
theorem dX0_moveRow_16 : decode cX0_moveRow 16 = .ok (.aload_n 0, 1) := by decide +kernel
theorem dX0_moveRow_17 : decode cX0_moveRow 17 = .ok (.getfield 9, 3) := by decide +kernel
theorem dX0_moveRow_20 : decode cX0_moveRow 20 = .ok (.iload_n 1, 1) := by decide +kernel
theorem dX0_moveRow_21 : decode cX0_moveRow 21 = .ok (.iload_n 3, 1) := by decide +kernel
theorem dX0_moveRow_22 : decode cX0_moveRow 22 = .ok (.invokestatic 52, 3) := by decide +kernel
theorem dX0_moveRow_25 : decode cX0_moveRow 25 = .ok (.laload, 1) := by decide +kernel
theorem dX0_moveRow_26 : decode cX0_moveRow 26 = .ok (.lastore, 1) := by decide +kernel
theorem dX0_moveRow_27 : decode cX0_moveRow 27 = .ok (.iinc 3 1, 3) := by decide +kernel
theorem dX0_moveRow_30 : decode cX0_moveRow 30 = .ok (.goto (-28), 3) := by decide +kernel
theorem dX0_moveRow_33 : decode cX0_moveRow 33 = .ok (.return_, 1) := by decide +kernel
theorem dX0_pick_0 : decode cX0_pick 0 = .ok (.iconst 0, 1) := by decide +kernel
theorem dX0_pick_1 : decode cX0_pick 1 = .ok (.istore_n 1, 1) := by decide +kernel
theorem dX0_pick_2 : decode cX0_pick 2 = .ok (.iconst 0, 1) := by decide +kernel
theorem dX0_pick_3 : decode cX0_pick 3 = .ok (.istore_n 2, 1) := by decide +kernel
theorem dX0_pick_4 : decode cX0_pick 4 = .ok (.iload_n 2, 1) := by decide +kernel
theorem dX0_pick_5 : decode cX0_pick 5 = .ok (.aload_n 0, 1) := by decide +kernel
theorem dX0_pick_6 : decode cX0_pick 6 = .ok (.invokevirtual 81, 3) := by decide +kernel
theorem dX0_pick_9 : decode cX0_pick 9 = .ok (.if_icmp .ge 24, 3) := by decide +kernel
theorem dX0_pick_12 : decode cX0_pick 12 = .ok (.aload_n 0, 1) := by decide +kernel
theorem dX0_pick_13 : decode cX0_pick 13 = .ok (.iload_n 2, 1) := by decide +kernel
theorem dX0_pick_14 : decode cX0_pick 14 = .ok (.invokevirtual 84, 3) := by decide +kernel
theorem dX0_pick_17 : decode cX0_pick 17 = .ok (.ifCond .ne 10, 3) := by decide +kernel
theorem dX0_pick_20 : decode cX0_pick 20 = .ok (.aload_n 0, 1) := by decide +kernel
theorem dX0_pick_21 : decode cX0_pick 21 = .ok (.iload_n 2, 1) := by decide +kernel
theorem dX0_pick_22 : decode cX0_pick 22 = .ok (.iload_n 1, 1) := by decide +kernel
theorem dX0_pick_23 : decode cX0_pick 23 = .ok (.invokevirtual 140, 3) := by decide +kernel
theorem dX0_pick_26 : decode cX0_pick 26 = .ok (.istore_n 1, 1) := by decide +kernel
theorem dX0_pick_27 : decode cX0_pick 27 = .ok (.iinc 2 1, 3) := by decide +kernel
theorem dX0_pick_30 : decode cX0_pick 30 = .ok (.goto (-26), 3) := by decide +kernel
theorem dX0_pick_33 : decode cX0_pick 33 = .ok (.iload_n 1, 1) := by decide +kernel
theorem dX0_pick_34 : decode cX0_pick 34 = .ok (.ireturn, 1) := by decide +kernel
theorem dX0_pickFromBlock_0 : decode cX0_pickFromBlock 0 = .ok (.iload_n 2, 1) := by decide +kernel
theorem dX0_pickFromBlock_1 : decode cX0_pickFromBlock 1 = .ok (.istore_n 3, 1) := by decide +kernel
theorem dX0_pickFromBlock_2 : decode cX0_pickFromBlock 2 = .ok (.aload_n 0, 1) := by decide +kernel
theorem dX0_pickFromBlock_3 : decode cX0_pickFromBlock 3 = .ok (.getfield 13, 3) := by decide +kernel
theorem dX0_pickFromBlock_6 : decode cX0_pickFromBlock 6 = .ok (.iload_n 1, 1) := by decide +kernel
theorem dX0_pickFromBlock_7 : decode cX0_pickFromBlock 7 = .ok (.iconst 1, 1) := by decide +kernel
theorem dX0_pickFromBlock_8 : decode cX0_pickFromBlock 8 = .ok (.iadd, 1) := by decide +kernel
theorem dX0_pickFromBlock_9 : decode cX0_pickFromBlock 9 = .ok (.bipush 16, 2) := by decide +kernel
theorem dX0_pickFromBlock_11 : decode cX0_pickFromBlock 11 = .ok (.imul, 1) := by decide +kernel
theorem dX0_pickFromBlock_12 : decode cX0_pickFromBlock 12 = .ok (.invokestatic 143, 3) := by decide +kernel
theorem dX0_pickFromBlock_15 : decode cX0_pickFromBlock 15 = .ok (.istore 4, 2) := by decide +kernel
theorem dX0_pickFromBlock_17 : decode cX0_pickFromBlock 17 = .ok (.iload_n 1, 1) := by decide +kernel
theorem dX0_pickFromBlock_18 : decode cX0_pickFromBlock 18 = .ok (.bipush 16, 2) := by decide +kernel
theorem dX0_pickFromBlock_20 : decode cX0_pickFromBlock 20 = .ok (.imul, 1) := by decide +kernel
theorem dX0_pickFromBlock_21 : decode cX0_pickFromBlock 21 = .ok (.istore 5, 2) := by decide +kernel
theorem dX0_pickFromBlock_23 : decode cX0_pickFromBlock 23 = .ok (.iload 5, 2) := by decide +kernel
theorem dX0_pickFromBlock_25 : decode cX0_pickFromBlock 25 = .ok (.iload 4, 2) := by decide +kernel
theorem dX0_pickFromBlock_27 : decode cX0_pickFromBlock 27 = .ok (.if_icmp .ge 29, 3) := by decide +kernel
theorem dX0_pickFromBlock_30 : decode cX0_pickFromBlock 30 = .ok (.aload_n 0, 1) := by decide +kernel
theorem dX0_pickFromBlock_31 : decode cX0_pickFromBlock 31 = .ok (.iload 5, 2) := by decide +kernel
theorem dX0_pickFromBlock_33 : decode cX0_pickFromBlock 33 = .ok (.invokevirtual 148, 3) := by decide +kernel
theorem dX0_pickFromBlock_36 : decode cX0_pickFromBlock 36 = .ok (.ifCond .eq 14, 3) := by decide +kernel
theorem dX0_pickFromBlock_39 : decode cX0_pickFromBlock 39 = .ok (.aload_n 0, 1) := by decide +kernel
theorem dX0_pickFromBlock_40 : decode cX0_pickFromBlock 40 = .ok (.getfield 42, 3) := by decide +kernel
theorem dX0_pickFromBlock_43 : decode cX0_pickFromBlock 43 = .ok (.iload_n 3, 1) := by decide +kernel
theorem dX0_pickFromBlock_44 : decode cX0_pickFromBlock 44 = .ok (.iload 5, 2) := by decide +kernel
theorem dX0_pickFromBlock_46 : decode cX0_pickFromBlock 46 = .ok (.iastore, 1) := by decide +kernel
theorem dX0_pickFromBlock_47 : decode cX0_pickFromBlock 47 = .ok (.iinc 3 1, 3) := by decide +kernel
theorem dX0_pickFromBlock_50 : decode cX0_pickFromBlock 50 = .ok (.iinc 5 1, 3) := by decide +kernel
theorem dX0_pickFromBlock_53 : decode cX0_pickFromBlock 53 = .ok (.goto (-30), 3) := by decide +kernel
theorem dX0_pickFromBlock_56 : decode cX0_pickFromBlock 56 = .ok (.iload_n 3, 1) := by decide +kernel
theorem dX0_pickFromBlock_57 : decode cX0_pickFromBlock 57 = .ok (.ireturn, 1) := by decide +kernel
theorem dX0_isChosen_0 : decode cX0_isChosen 0 = .ok (.iconst 0, 1) := by decide +kernel
theorem dX0_isChosen_1 : decode cX0_isChosen 1 = .ok (.istore_n 2, 1) := by decide +kernel
theorem dX0_isChosen_2 : decode cX0_isChosen 2 = .ok (.iload_n 2, 1) := by decide +kernel
theorem dX0_isChosen_3 : decode cX0_isChosen 3 = .ok (.aload_n 0, 1) := by decide +kernel
theorem dX0_isChosen_4 : decode cX0_isChosen 4 = .ok (.getfield 27, 3) := by decide +kernel
theorem dX0_isChosen_7 : decode cX0_isChosen 7 = .ok (.if_icmp .ge 47, 3) := by decide +kernel
theorem dX0_isChosen_10 : decode cX0_isChosen 10 = .ok (.aload_n 0, 1) := by decide +kernel
theorem dX0_isChosen_11 : decode cX0_isChosen 11 = .ok (.getfield 9, 3) := by decide +kernel
theorem dX0_isChosen_14 : decode cX0_isChosen 14 = .ok (.iload_n 1, 1) := by decide +kernel
theorem dX0_isChosen_15 : decode cX0_isChosen 15 = .ok (.aload_n 0, 1) := by decide +kernel
theorem dX0_isChosen_16 : decode cX0_isChosen 16 = .ok (.getfield 17, 3) := by decide +kernel
theorem dX0_isChosen_19 : decode cX0_isChosen 19 = .ok (.iload_n 2, 1) := by decide +kernel
theorem dX0_isChosen_20 : decode cX0_isChosen 20 = .ok (.iaload, 1) := by decide +kernel
theorem dX0_isChosen_21 : decode cX0_isChosen 21 = .ok (.invokestatic 52, 3) := by decide +kernel
theorem dX0_isChosen_24 : decode cX0_isChosen 24 = .ok (.laload, 1) := by decide +kernel
theorem dX0_isChosen_25 : decode cX0_isChosen 25 = .ok (.lstore_n 3, 1) := by decide +kernel
theorem dX0_isChosen_26 : decode cX0_isChosen 26 = .ok (.aload_n 0, 1) := by decide +kernel
theorem dX0_isChosen_27 : decode cX0_isChosen 27 = .ok (.getfield 21, 3) := by decide +kernel
theorem dX0_isChosen_30 : decode cX0_isChosen 30 = .ok (.iload_n 2, 1) := by decide +kernel
theorem dX0_isChosen_31 : decode cX0_isChosen 31 = .ok (.iaload, 1) := by decide +kernel
theorem dX0_isChosen_32 : decode cX0_isChosen 32 = .ok (.aload_n 0, 1) := by decide +kernel
theorem dX0_isChosen_33 : decode cX0_isChosen 33 = .ok (.getfield 24, 3) := by decide +kernel
theorem dX0_isChosen_36 : decode cX0_isChosen 36 = .ok (.iload_n 2, 1) := by decide +kernel
theorem dX0_isChosen_37 : decode cX0_isChosen 37 = .ok (.laload, 1) := by decide +kernel
theorem dX0_isChosen_38 : decode cX0_isChosen 38 = .ok (.lload_n 3, 1) := by decide +kernel
theorem dX0_isChosen_39 : decode cX0_isChosen 39 = .ok (.lload_n 3, 1) := by decide +kernel
theorem dX0_isChosen_40 : decode cX0_isChosen 40 = .ok (.invokestatic 151, 3) := by decide +kernel
theorem dX0_isChosen_43 : decode cX0_isChosen 43 = .ok (.ifCond .ne 5, 3) := by decide +kernel
theorem dX0_isChosen_46 : decode cX0_isChosen 46 = .ok (.iconst 0, 1) := by decide +kernel
theorem dX0_isChosen_47 : decode cX0_isChosen 47 = .ok (.ireturn, 1) := by decide +kernel
theorem dX0_isChosen_48 : decode cX0_isChosen 48 = .ok (.iinc 2 1, 3) := by decide +kernel
theorem dX0_isChosen_51 : decode cX0_isChosen 51 = .ok (.goto (-49), 3) := by decide +kernel
theorem dX0_isChosen_54 : decode cX0_isChosen 54 = .ok (.iconst 1, 1) := by decide +kernel
theorem dX0_isChosen_55 : decode cX0_isChosen 55 = .ok (.ireturn, 1) := by decide +kernel
theorem dX0_isPassedOver_0 : decode cX0_isPassedOver 0 = .ok (.iload_n 1, 1) := by decide +kernel
theorem dX0_isPassedOver_1 : decode cX0_isPassedOver 1 = .ok (.aload_n 0, 1) := by decide +kernel
theorem dX0_isPassedOver_2 : decode cX0_isPassedOver 2 = .ok (.invokevirtual 135, 3) := by decide +kernel
theorem dX0_isPassedOver_5 : decode cX0_isPassedOver 5 = .ok (.if_icmp .lt 5, 3) := by decide +kernel
theorem dX0_isPassedOver_8 : decode cX0_isPassedOver 8 = .ok (.iconst 0, 1) := by decide +kernel
theorem dX0_isPassedOver_9 : decode cX0_isPassedOver 9 = .ok (.ireturn, 1) := by decide +kernel
theorem dX0_isPassedOver_10 : decode cX0_isPassedOver 10 = .ok (.iconst 0, 1) := by decide +kernel
theorem dX0_isPassedOver_11 : decode cX0_isPassedOver 11 = .ok (.istore_n 2, 1) := by decide +kernel
theorem dX0_isPassedOver_12 : decode cX0_isPassedOver 12 = .ok (.iload_n 2, 1) := by decide +kernel
theorem dX0_isPassedOver_13 : decode cX0_isPassedOver 13 = .ok (.aload_n 0, 1) := by decide +kernel
theorem dX0_isPassedOver_14 : decode cX0_isPassedOver 14 = .ok (.getfield 27, 3) := by decide +kernel
theorem dX0_isPassedOver_17 : decode cX0_isPassedOver 17 = .ok (.if_icmp .ge 52, 3) := by decide +kernel
theorem dX0_isPassedOver_20 : decode cX0_isPassedOver 20 = .ok (.iload_n 1, 1) := by decide +kernel
theorem dX0_isPassedOver_21 : decode cX0_isPassedOver 21 = .ok (.aload_n 0, 1) := by decide +kernel
theorem dX0_isPassedOver_22 : decode cX0_isPassedOver 22 = .ok (.getfield 17, 3) := by decide +kernel
theorem dX0_isPassedOver_25 : decode cX0_isPassedOver 25 = .ok (.iload_n 2, 1) := by decide +kernel
theorem dX0_isPassedOver_26 : decode cX0_isPassedOver 26 = .ok (.iaload, 1) := by decide +kernel
theorem dX0_isPassedOver_27 : decode cX0_isPassedOver 27 = .ok (.invokestatic 123, 3) := by decide +kernel
theorem dX0_isPassedOver_30 : decode cX0_isPassedOver 30 = .ok (.istore_n 3, 1) := by decide +kernel
theorem dX0_isPassedOver_31 : decode cX0_isPassedOver 31 = .ok (.aload_n 0, 1) := by decide +kernel
theorem dX0_isPassedOver_32 : decode cX0_isPassedOver 32 = .ok (.getfield 21, 3) := by decide +kernel
theorem dX0_isPassedOver_35 : decode cX0_isPassedOver 35 = .ok (.iload_n 2, 1) := by decide +kernel
theorem dX0_isPassedOver_36 : decode cX0_isPassedOver 36 = .ok (.iaload, 1) := by decide +kernel
theorem dX0_isPassedOver_37 : decode cX0_isPassedOver 37 = .ok (.aload_n 0, 1) := by decide +kernel
theorem dX0_isPassedOver_38 : decode cX0_isPassedOver 38 = .ok (.getfield 24, 3) := by decide +kernel
theorem dX0_isPassedOver_41 : decode cX0_isPassedOver 41 = .ok (.iload_n 2, 1) := by decide +kernel
theorem dX0_isPassedOver_42 : decode cX0_isPassedOver 42 = .ok (.laload, 1) := by decide +kernel
theorem dX0_isPassedOver_43 : decode cX0_isPassedOver 43 = .ok (.aload_n 0, 1) := by decide +kernel
theorem dX0_isPassedOver_44 : decode cX0_isPassedOver 44 = .ok (.getfield 30, 3) := by decide +kernel
theorem dX0_isPassedOver_47 : decode cX0_isPassedOver 47 = .ok (.iload_n 3, 1) := by decide +kernel
theorem dX0_isPassedOver_48 : decode cX0_isPassedOver 48 = .ok (.laload, 1) := by decide +kernel
theorem dX0_isPassedOver_49 : decode cX0_isPassedOver 49 = .ok (.aload_n 0, 1) := by decide +kernel
theorem dX0_isPassedOver_50 : decode cX0_isPassedOver 50 = .ok (.getfield 33, 3) := by decide +kernel
theorem dX0_isPassedOver_53 : decode cX0_isPassedOver 53 = .ok (.iload_n 3, 1) := by decide +kernel
theorem dX0_isPassedOver_54 : decode cX0_isPassedOver 54 = .ok (.laload, 1) := by decide +kernel
theorem dX0_isPassedOver_55 : decode cX0_isPassedOver 55 = .ok (.invokestatic 151, 3) := by decide +kernel
theorem dX0_isPassedOver_58 : decode cX0_isPassedOver 58 = .ok (.ifCond .ne 5, 3) := by decide +kernel
theorem dX0_isPassedOver_61 : decode cX0_isPassedOver 61 = .ok (.iconst 1, 1) := by decide +kernel
theorem dX0_isPassedOver_62 : decode cX0_isPassedOver 62 = .ok (.ireturn, 1) := by decide +kernel
theorem dX0_isPassedOver_63 : decode cX0_isPassedOver 63 = .ok (.iinc 2 1, 3) := by decide +kernel
theorem dX0_isPassedOver_66 : decode cX0_isPassedOver 66 = .ok (.goto (-54), 3) := by decide +kernel
theorem dX0_isPassedOver_69 : decode cX0_isPassedOver 69 = .ok (.iconst 0, 1) := by decide +kernel
theorem dX0_isPassedOver_70 : decode cX0_isPassedOver 70 = .ok (.ireturn, 1) := by decide +kernel
theorem dX0_couldHold_0 : decode cX0_couldHold 0 = .ok (.iload_n 0, 1) := by decide +kernel
theorem dX0_couldHold_1 : decode cX0_couldHold 1 = .ok (.tableswitch 104 0 4 #[35, 47, 59, 78, 91], 35) := by decide +kernel
theorem dX0_couldHold_36 : decode cX0_couldHold 36 = .ok (.lload_n 3, 1) := by decide +kernel
theorem dX0_couldHold_37 : decode cX0_couldHold 37 = .ok (.lload_n 1, 1) := by decide +kernel
theorem dX0_couldHold_38 : decode cX0_couldHold 38 = .ok (.lcmp, 1) := by decide +kernel
theorem dX0_couldHold_39 : decode cX0_couldHold 39 = .ok (.ifCond .ge 7, 3) := by decide +kernel
theorem dX0_couldHold_42 : decode cX0_couldHold 42 = .ok (.iconst 1, 1) := by decide +kernel
theorem dX0_couldHold_43 : decode cX0_couldHold 43 = .ok (.goto 4, 3) := by decide +kernel
theorem dX0_couldHold_46 : decode cX0_couldHold 46 = .ok (.iconst 0, 1) := by decide +kernel
theorem dX0_couldHold_47 : decode cX0_couldHold 47 = .ok (.ireturn, 1) := by decide +kernel
theorem dX0_couldHold_48 : decode cX0_couldHold 48 = .ok (.lload_n 3, 1) := by decide +kernel
theorem dX0_couldHold_49 : decode cX0_couldHold 49 = .ok (.lload_n 1, 1) := by decide +kernel
theorem dX0_couldHold_50 : decode cX0_couldHold 50 = .ok (.lcmp, 1) := by decide +kernel
theorem dX0_couldHold_51 : decode cX0_couldHold 51 = .ok (.ifCond .gt 7, 3) := by decide +kernel
theorem dX0_couldHold_54 : decode cX0_couldHold 54 = .ok (.iconst 1, 1) := by decide +kernel
theorem dX0_couldHold_55 : decode cX0_couldHold 55 = .ok (.goto 4, 3) := by decide +kernel
theorem dX0_couldHold_58 : decode cX0_couldHold 58 = .ok (.iconst 0, 1) := by decide +kernel
theorem dX0_couldHold_59 : decode cX0_couldHold 59 = .ok (.ireturn, 1) := by decide +kernel
theorem dX0_couldHold_60 : decode cX0_couldHold 60 = .ok (.lload_n 3, 1) := by decide +kernel
theorem dX0_couldHold_61 : decode cX0_couldHold 61 = .ok (.lload_n 1, 1) := by decide +kernel
theorem dX0_couldHold_62 : decode cX0_couldHold 62 = .ok (.lcmp, 1) := by decide +kernel
theorem dX0_couldHold_63 : decode cX0_couldHold 63 = .ok (.ifCond .gt 14, 3) := by decide +kernel
theorem dX0_couldHold_66 : decode cX0_couldHold 66 = .ok (.lload_n 1, 1) := by decide +kernel
theorem dX0_couldHold_67 : decode cX0_couldHold 67 = .ok (.lload 5, 2) := by decide +kernel
theorem dX0_couldHold_69 : decode cX0_couldHold 69 = .ok (.lcmp, 1) := by decide +kernel
theorem dX0_couldHold_70 : decode cX0_couldHold 70 = .ok (.ifCond .gt 7, 3) := by decide +kernel
theorem dX0_couldHold_73 : decode cX0_couldHold 73 = .ok (.iconst 1, 1) := by decide +kernel
theorem dX0_couldHold_74 : decode cX0_couldHold 74 = .ok (.goto 4, 3) := by decide +kernel
theorem dX0_couldHold_77 : decode cX0_couldHold 77 = .ok (.iconst 0, 1) := by decide +kernel
theorem dX0_couldHold_78 : decode cX0_couldHold 78 = .ok (.ireturn, 1) := by decide +kernel
theorem dX0_couldHold_79 : decode cX0_couldHold 79 = .ok (.lload 5, 2) := by decide +kernel
theorem dX0_couldHold_81 : decode cX0_couldHold 81 = .ok (.lload_n 1, 1) := by decide +kernel
theorem dX0_couldHold_82 : decode cX0_couldHold 82 = .ok (.lcmp, 1) := by decide +kernel
theorem dX0_couldHold_83 : decode cX0_couldHold 83 = .ok (.ifCond .lt 7, 3) := by decide +kernel
theorem dX0_couldHold_86 : decode cX0_couldHold 86 = .ok (.iconst 1, 1) := by decide +kernel
theorem dX0_couldHold_87 : decode cX0_couldHold 87 = .ok (.goto 4, 3) := by decide +kernel
theorem dX0_couldHold_90 : decode cX0_couldHold 90 = .ok (.iconst 0, 1) := by decide +kernel
theorem dX0_couldHold_91 : decode cX0_couldHold 91 = .ok (.ireturn, 1) := by decide +kernel
theorem dX0_couldHold_92 : decode cX0_couldHold 92 = .ok (.lload 5, 2) := by decide +kernel
theorem dX0_couldHold_94 : decode cX0_couldHold 94 = .ok (.lload_n 1, 1) := by decide +kernel
theorem dX0_couldHold_95 : decode cX0_couldHold 95 = .ok (.lcmp, 1) := by decide +kernel
theorem dX0_couldHold_96 : decode cX0_couldHold 96 = .ok (.ifCond .le 7, 3) := by decide +kernel
theorem dX0_couldHold_99 : decode cX0_couldHold 99 = .ok (.iconst 1, 1) := by decide +kernel
theorem dX0_couldHold_100 : decode cX0_couldHold 100 = .ok (.goto 4, 3) := by decide +kernel
theorem dX0_couldHold_103 : decode cX0_couldHold 103 = .ok (.iconst 0, 1) := by decide +kernel
theorem dX0_couldHold_104 : decode cX0_couldHold 104 = .ok (.ireturn, 1) := by decide +kernel
theorem dX0_couldHold_105 : decode cX0_couldHold 105 = .ok (.lload_n 3, 1) := by decide +kernel
theorem dX0_couldHold_106 : decode cX0_couldHold 106 = .ok (.lload_n 1, 1) := by decide +kernel
theorem dX0_couldHold_107 : decode cX0_couldHold 107 = .ok (.lcmp, 1) := by decide +kernel
theorem dX0_couldHold_108 : decode cX0_couldHold 108 = .ok (.ifCond .ne 10, 3) := by decide +kernel
theorem dX0_couldHold_111 : decode cX0_couldHold 111 = .ok (.lload 5, 2) := by decide +kernel
theorem dX0_couldHold_113 : decode cX0_couldHold 113 = .ok (.lload_n 1, 1) := by decide +kernel
theorem dX0_couldHold_114 : decode cX0_couldHold 114 = .ok (.lcmp, 1) := by decide +kernel
theorem dX0_couldHold_115 : decode cX0_couldHold 115 = .ok (.ifCond .eq 7, 3) := by decide +kernel
theorem dX0_couldHold_118 : decode cX0_couldHold 118 = .ok (.iconst 1, 1) := by decide +kernel
theorem dX0_couldHold_119 : decode cX0_couldHold 119 = .ok (.goto 4, 3) := by decide +kernel
theorem dX0_couldHold_122 : decode cX0_couldHold 122 = .ok (.iconst 0, 1) := by decide +kernel
theorem dX0_couldHold_123 : decode cX0_couldHold 123 = .ok (.ireturn, 1) := by decide +kernel
theorem dX0_sumOfPicked_0 : decode cX0_sumOfPicked 0 = .ok (.lconst 0, 1) := by decide +kernel
theorem dX0_sumOfPicked_1 : decode cX0_sumOfPicked 1 = .ok (.lstore 4, 2) := by decide +kernel
theorem dX0_sumOfPicked_3 : decode cX0_sumOfPicked 3 = .ok (.iload_n 2, 1) := by decide +kernel
theorem dX0_sumOfPicked_4 : decode cX0_sumOfPicked 4 = .ok (.istore 6, 2) := by decide +kernel
theorem dX0_sumOfPicked_6 : decode cX0_sumOfPicked 6 = .ok (.iload 6, 2) := by decide +kernel
theorem dX0_sumOfPicked_8 : decode cX0_sumOfPicked 8 = .ok (.iload_n 3, 1) := by decide +kernel
theorem dX0_sumOfPicked_9 : decode cX0_sumOfPicked 9 = .ok (.if_icmp .ge 30, 3) := by decide +kernel
theorem dX0_sumOfPicked_12 : decode cX0_sumOfPicked 12 = .ok (.lload 4, 2) := by decide +kernel
theorem dX0_sumOfPicked_14 : decode cX0_sumOfPicked 14 = .ok (.aload_n 0, 1) := by decide +kernel
theorem dX0_sumOfPicked_15 : decode cX0_sumOfPicked 15 = .ok (.getfield 9, 3) := by decide +kernel
theorem dX0_sumOfPicked_18 : decode cX0_sumOfPicked 18 = .ok (.aload_n 0, 1) := by decide +kernel
theorem dX0_sumOfPicked_19 : decode cX0_sumOfPicked 19 = .ok (.getfield 42, 3) := by decide +kernel
theorem dX0_sumOfPicked_22 : decode cX0_sumOfPicked 22 = .ok (.iload 6, 2) := by decide +kernel
theorem dX0_sumOfPicked_24 : decode cX0_sumOfPicked 24 = .ok (.iaload, 1) := by decide +kernel
theorem dX0_sumOfPicked_25 : decode cX0_sumOfPicked 25 = .ok (.iload_n 1, 1) := by decide +kernel
theorem dX0_sumOfPicked_26 : decode cX0_sumOfPicked 26 = .ok (.invokestatic 52, 3) := by decide +kernel
theorem dX0_sumOfPicked_29 : decode cX0_sumOfPicked 29 = .ok (.laload, 1) := by decide +kernel
theorem dX0_sumOfPicked_30 : decode cX0_sumOfPicked 30 = .ok (.ladd, 1) := by decide +kernel
theorem dX0_sumOfPicked_31 : decode cX0_sumOfPicked 31 = .ok (.lstore 4, 2) := by decide +kernel
theorem dX0_sumOfPicked_33 : decode cX0_sumOfPicked 33 = .ok (.iinc 6 1, 3) := by decide +kernel
theorem dX0_sumOfPicked_36 : decode cX0_sumOfPicked 36 = .ok (.goto (-30), 3) := by decide +kernel
theorem dX0_sumOfPicked_39 : decode cX0_sumOfPicked 39 = .ok (.lload 4, 2) := by decide +kernel
theorem dX0_sumOfPicked_41 : decode cX0_sumOfPicked 41 = .ok (.lreturn, 1) := by decide +kernel
theorem dX0_boundOfPicked_0 : decode cX0_boundOfPicked 0 = .ok (.aload_n 0, 1) := by decide +kernel
theorem dX0_boundOfPicked_1 : decode cX0_boundOfPicked 1 = .ok (.getfield 9, 3) := by decide +kernel
theorem dX0_boundOfPicked_4 : decode cX0_boundOfPicked 4 = .ok (.aload_n 0, 1) := by decide +kernel
theorem dX0_boundOfPicked_5 : decode cX0_boundOfPicked 5 = .ok (.getfield 42, 3) := by decide +kernel
theorem dX0_boundOfPicked_8 : decode cX0_boundOfPicked 8 = .ok (.iload_n 3, 1) := by decide +kernel
theorem dX0_boundOfPicked_9 : decode cX0_boundOfPicked 9 = .ok (.iaload, 1) := by decide +kernel
theorem dX0_boundOfPicked_10 : decode cX0_boundOfPicked 10 = .ok (.iload_n 1, 1) := by decide +kernel
theorem dX0_boundOfPicked_11 : decode cX0_boundOfPicked 11 = .ok (.invokestatic 52, 3) := by decide +kernel
theorem dX0_boundOfPicked_14 : decode cX0_boundOfPicked 14 = .ok (.laload, 1) := by decide +kernel
theorem dX0_boundOfPicked_15 : decode cX0_boundOfPicked 15 = .ok (.lstore 5, 2) := by decide +kernel
theorem dX0_boundOfPicked_17 : decode cX0_boundOfPicked 17 = .ok (.iload_n 3, 1) := by decide +kernel
theorem dX0_boundOfPicked_18 : decode cX0_boundOfPicked 18 = .ok (.iconst 1, 1) := by decide +kernel
theorem dX0_boundOfPicked_19 : decode cX0_boundOfPicked 19 = .ok (.iadd, 1) := by decide +kernel
theorem dX0_boundOfPicked_20 : decode cX0_boundOfPicked 20 = .ok (.istore 7, 2) := by decide +kernel
theorem dX0_boundOfPicked_22 : decode cX0_boundOfPicked 22 = .ok (.iload 7, 2) := by decide +kernel
theorem dX0_boundOfPicked_24 : decode cX0_boundOfPicked 24 = .ok (.iload 4, 2) := by decide +kernel
theorem dX0_boundOfPicked_26 : decode cX0_boundOfPicked 26 = .ok (.if_icmp .ge 54, 3) := by decide +kernel
theorem dX0_boundOfPicked_29 : decode cX0_boundOfPicked 29 = .ok (.aload_n 0, 1) := by decide +kernel
theorem dX0_boundOfPicked_30 : decode cX0_boundOfPicked 30 = .ok (.getfield 9, 3) := by decide +kernel
theorem dX0_boundOfPicked_33 : decode cX0_boundOfPicked 33 = .ok (.aload_n 0, 1) := by decide +kernel
theorem dX0_boundOfPicked_34 : decode cX0_boundOfPicked 34 = .ok (.getfield 42, 3) := by decide +kernel
theorem dX0_boundOfPicked_37 : decode cX0_boundOfPicked 37 = .ok (.iload 7, 2) := by decide +kernel
theorem dX0_boundOfPicked_39 : decode cX0_boundOfPicked 39 = .ok (.iaload, 1) := by decide +kernel
theorem dX0_boundOfPicked_40 : decode cX0_boundOfPicked 40 = .ok (.iload_n 1, 1) := by decide +kernel
theorem dX0_boundOfPicked_41 : decode cX0_boundOfPicked 41 = .ok (.invokestatic 52, 3) := by decide +kernel
theorem dX0_boundOfPicked_44 : decode cX0_boundOfPicked 44 = .ok (.laload, 1) := by decide +kernel
theorem dX0_boundOfPicked_45 : decode cX0_boundOfPicked 45 = .ok (.lstore 8, 2) := by decide +kernel
theorem dX0_boundOfPicked_47 : decode cX0_boundOfPicked 47 = .ok (.iload_n 2, 1) := by decide +kernel
theorem dX0_boundOfPicked_48 : decode cX0_boundOfPicked 48 = .ok (.ifCond .eq 14, 3) := by decide +kernel
theorem dX0_boundOfPicked_51 : decode cX0_boundOfPicked 51 = .ok (.lload 8, 2) := by decide +kernel
theorem dX0_boundOfPicked_53 : decode cX0_boundOfPicked 53 = .ok (.lload 5, 2) := by decide +kernel
theorem dX0_boundOfPicked_55 : decode cX0_boundOfPicked 55 = .ok (.lcmp, 1) := by decide +kernel
theorem dX0_boundOfPicked_56 : decode cX0_boundOfPicked 56 = .ok (.ifCond .le 18, 3) := by decide +kernel
theorem dX0_boundOfPicked_59 : decode cX0_boundOfPicked 59 = .ok (.goto 11, 3) := by decide +kernel
theorem dX0_boundOfPicked_62 : decode cX0_boundOfPicked 62 = .ok (.lload 8, 2) := by decide +kernel
theorem dX0_boundOfPicked_64 : decode cX0_boundOfPicked 64 = .ok (.lload 5, 2) := by decide +kernel
theorem dX0_boundOfPicked_66 : decode cX0_boundOfPicked 66 = .ok (.lcmp, 1) := by decide +kernel
theorem dX0_boundOfPicked_67 : decode cX0_boundOfPicked 67 = .ok (.ifCond .ge 7, 3) := by decide +kernel
theorem dX0_boundOfPicked_70 : decode cX0_boundOfPicked 70 = .ok (.lload 8, 2) := by decide +kernel
theorem dX0_boundOfPicked_72 : decode cX0_boundOfPicked 72 = .ok (.lstore 5, 2) := by decide +kernel
theorem dX0_boundOfPicked_74 : decode cX0_boundOfPicked 74 = .ok (.iinc 7 1, 3) := by decide +kernel
theorem dX0_boundOfPicked_77 : decode cX0_boundOfPicked 77 = .ok (.goto (-55), 3) := by decide +kernel
theorem dX0_boundOfPicked_80 : decode cX0_boundOfPicked 80 = .ok (.lload 5, 2) := by decide +kernel
theorem dX0_boundOfPicked_82 : decode cX0_boundOfPicked 82 = .ok (.lreturn, 1) := by decide +kernel
theorem dX0_sortPicked_0 : decode cX0_sortPicked 0 = .ok (.iconst 1, 1) := by decide +kernel
theorem dX0_sortPicked_1 : decode cX0_sortPicked 1 = .ok (.istore 4, 2) := by decide +kernel
theorem dX0_sortPicked_3 : decode cX0_sortPicked 3 = .ok (.iload 4, 2) := by decide +kernel
theorem dX0_sortPicked_5 : decode cX0_sortPicked 5 = .ok (.iload_n 1, 1) := by decide +kernel
theorem dX0_sortPicked_6 : decode cX0_sortPicked 6 = .ok (.if_icmp .ge 98, 3) := by decide +kernel
theorem dX0_sortPicked_9 : decode cX0_sortPicked 9 = .ok (.aload_n 0, 1) := by decide +kernel
theorem dX0_sortPicked_10 : decode cX0_sortPicked 10 = .ok (.getfield 42, 3) := by decide +kernel
theorem dX0_sortPicked_13 : decode cX0_sortPicked 13 = .ok (.iload 4, 2) := by decide +kernel
theorem dX0_sortPicked_15 : decode cX0_sortPicked 15 = .ok (.iaload, 1) := by decide +kernel
theorem dX0_sortPicked_16 : decode cX0_sortPicked 16 = .ok (.istore 5, 2) := by decide +kernel
theorem dX0_sortPicked_18 : decode cX0_sortPicked 18 = .ok (.aload_n 0, 1) := by decide +kernel
theorem dX0_sortPicked_19 : decode cX0_sortPicked 19 = .ok (.getfield 9, 3) := by decide +kernel
theorem dX0_sortPicked_22 : decode cX0_sortPicked 22 = .ok (.iload 5, 2) := by decide +kernel
theorem dX0_sortPicked_24 : decode cX0_sortPicked 24 = .ok (.iload_n 2, 1) := by decide +kernel
theorem dX0_sortPicked_25 : decode cX0_sortPicked 25 = .ok (.invokestatic 52, 3) := by decide +kernel
theorem dX0_sortPicked_28 : decode cX0_sortPicked 28 = .ok (.laload, 1) := by decide +kernel
theorem dX0_sortPicked_29 : decode cX0_sortPicked 29 = .ok (.lstore 6, 2) := by decide +kernel
theorem dX0_sortPicked_31 : decode cX0_sortPicked 31 = .ok (.iload 4, 2) := by decide +kernel
theorem dX0_sortPicked_33 : decode cX0_sortPicked 33 = .ok (.istore 8, 2) := by decide +kernel
theorem dX0_sortPicked_35 : decode cX0_sortPicked 35 = .ok (.iload 8, 2) := by decide +kernel
theorem dX0_sortPicked_37 : decode cX0_sortPicked 37 = .ok (.ifCond .le 52, 3) := by decide +kernel
theorem dX0_sortPicked_40 : decode cX0_sortPicked 40 = .ok (.lload 6, 2) := by decide +kernel
theorem dX0_sortPicked_42 : decode cX0_sortPicked 42 = .ok (.aload_n 0, 1) := by decide +kernel
theorem dX0_sortPicked_43 : decode cX0_sortPicked 43 = .ok (.getfield 9, 3) := by decide +kernel
theorem dX0_sortPicked_46 : decode cX0_sortPicked 46 = .ok (.aload_n 0, 1) := by decide +kernel
theorem dX0_sortPicked_47 : decode cX0_sortPicked 47 = .ok (.getfield 42, 3) := by decide +kernel
theorem dX0_sortPicked_50 : decode cX0_sortPicked 50 = .ok (.iload 8, 2) := by decide +kernel
theorem dX0_sortPicked_52 : decode cX0_sortPicked 52 = .ok (.iconst 1, 1) := by decide +kernel
theorem dX0_sortPicked_53 : decode cX0_sortPicked 53 = .ok (.isub, 1) := by decide +kernel
theorem dX0_sortPicked_54 : decode cX0_sortPicked 54 = .ok (.iaload, 1) := by decide +kernel
theorem dX0_sortPicked_55 : decode cX0_sortPicked 55 = .ok (.iload_n 2, 1) := by decide +kernel
theorem dX0_sortPicked_56 : decode cX0_sortPicked 56 = .ok (.invokestatic 52, 3) := by decide +kernel
theorem dX0_sortPicked_59 : decode cX0_sortPicked 59 = .ok (.laload, 1) := by decide +kernel
theorem dX0_sortPicked_60 : decode cX0_sortPicked 60 = .ok (.iload_n 3, 1) := by decide +kernel
theorem dX0_sortPicked_61 : decode cX0_sortPicked 61 = .ok (.invokestatic 155, 3) := by decide +kernel
theorem dX0_sortPicked_64 : decode cX0_sortPicked 64 = .ok (.ifCond .eq 25, 3) := by decide +kernel
theorem dX0_sortPicked_67 : decode cX0_sortPicked 67 = .ok (.aload_n 0, 1) := by decide +kernel
theorem dX0_sortPicked_68 : decode cX0_sortPicked 68 = .ok (.getfield 42, 3) := by decide +kernel
theorem dX0_sortPicked_71 : decode cX0_sortPicked 71 = .ok (.iload 8, 2) := by decide +kernel
theorem dX0_sortPicked_73 : decode cX0_sortPicked 73 = .ok (.aload_n 0, 1) := by decide +kernel
theorem dX0_sortPicked_74 : decode cX0_sortPicked 74 = .ok (.getfield 42, 3) := by decide +kernel
theorem dX0_sortPicked_77 : decode cX0_sortPicked 77 = .ok (.iload 8, 2) := by decide +kernel
theorem dX0_sortPicked_79 : decode cX0_sortPicked 79 = .ok (.iconst 1, 1) := by decide +kernel
theorem dX0_sortPicked_80 : decode cX0_sortPicked 80 = .ok (.isub, 1) := by decide +kernel
theorem dX0_sortPicked_81 : decode cX0_sortPicked 81 = .ok (.iaload, 1) := by decide +kernel
theorem dX0_sortPicked_82 : decode cX0_sortPicked 82 = .ok (.iastore, 1) := by decide +kernel
theorem dX0_sortPicked_83 : decode cX0_sortPicked 83 = .ok (.iinc 8 (-1), 3) := by decide +kernel
theorem dX0_sortPicked_86 : decode cX0_sortPicked 86 = .ok (.goto (-51), 3) := by decide +kernel
theorem dX0_sortPicked_89 : decode cX0_sortPicked 89 = .ok (.aload_n 0, 1) := by decide +kernel
theorem dX0_sortPicked_90 : decode cX0_sortPicked 90 = .ok (.getfield 42, 3) := by decide +kernel
theorem dX0_sortPicked_93 : decode cX0_sortPicked 93 = .ok (.iload 8, 2) := by decide +kernel
theorem dX0_sortPicked_95 : decode cX0_sortPicked 95 = .ok (.iload 5, 2) := by decide +kernel
theorem dX0_sortPicked_97 : decode cX0_sortPicked 97 = .ok (.iastore, 1) := by decide +kernel
theorem dX0_sortPicked_98 : decode cX0_sortPicked 98 = .ok (.iinc 4 1, 3) := by decide +kernel
theorem dX0_sortPicked_101 : decode cX0_sortPicked 101 = .ok (.goto (-98), 3) := by decide +kernel
theorem dX0_sortPicked_104 : decode cX0_sortPicked 104 = .ok (.return_, 1) := by decide +kernel
theorem dX0_comesBefore_0 : decode cX0_comesBefore 0 = .ok (.iload 4, 2) := by decide +kernel
theorem dX0_comesBefore_2 : decode cX0_comesBefore 2 = .ok (.ifCond .eq 17, 3) := by decide +kernel
theorem dX0_comesBefore_5 : decode cX0_comesBefore 5 = .ok (.lload_n 0, 1) := by decide +kernel
theorem dX0_comesBefore_6 : decode cX0_comesBefore 6 = .ok (.lload_n 2, 1) := by decide +kernel
theorem dX0_comesBefore_7 : decode cX0_comesBefore 7 = .ok (.lcmp, 1) := by decide +kernel
theorem dX0_comesBefore_8 : decode cX0_comesBefore 8 = .ok (.ifCond .le 7, 3) := by decide +kernel
theorem dX0_comesBefore_11 : decode cX0_comesBefore 11 = .ok (.iconst 1, 1) := by decide +kernel
theorem dX0_comesBefore_12 : decode cX0_comesBefore 12 = .ok (.goto 18, 3) := by decide +kernel
theorem dX0_comesBefore_15 : decode cX0_comesBefore 15 = .ok (.iconst 0, 1) := by decide +kernel
theorem dX0_comesBefore_16 : decode cX0_comesBefore 16 = .ok (.goto 14, 3) := by decide +kernel
theorem dX0_comesBefore_19 : decode cX0_comesBefore 19 = .ok (.lload_n 0, 1) := by decide +kernel
theorem dX0_comesBefore_20 : decode cX0_comesBefore 20 = .ok (.lload_n 2, 1) := by decide +kernel
theorem dX0_comesBefore_21 : decode cX0_comesBefore 21 = .ok (.lcmp, 1) := by decide +kernel
theorem dX0_comesBefore_22 : decode cX0_comesBefore 22 = .ok (.ifCond .ge 7, 3) := by decide +kernel
theorem dX0_comesBefore_25 : decode cX0_comesBefore 25 = .ok (.iconst 1, 1) := by decide +kernel
theorem dX0_comesBefore_26 : decode cX0_comesBefore 26 = .ok (.goto 4, 3) := by decide +kernel
theorem dX0_comesBefore_29 : decode cX0_comesBefore 29 = .ok (.iconst 0, 1) := by decide +kernel
theorem dX0_comesBefore_30 : decode cX0_comesBefore 30 = .ok (.ireturn, 1) := by decide +kernel
theorem dX0_startsGroup_0 : decode cX0_startsGroup 0 = .ok (.iload_n 1, 1) := by decide +kernel
theorem dX0_startsGroup_1 : decode cX0_startsGroup 1 = .ok (.ifCond .eq 39, 3) := by decide +kernel
theorem dX0_startsGroup_4 : decode cX0_startsGroup 4 = .ok (.aload_n 0, 1) := by decide +kernel
theorem dX0_startsGroup_5 : decode cX0_startsGroup 5 = .ok (.getfield 9, 3) := by decide +kernel
theorem dX0_startsGroup_8 : decode cX0_startsGroup 8 = .ok (.aload_n 0, 1) := by decide +kernel
theorem dX0_startsGroup_9 : decode cX0_startsGroup 9 = .ok (.getfield 42, 3) := by decide +kernel
theorem dX0_startsGroup_12 : decode cX0_startsGroup 12 = .ok (.iload_n 1, 1) := by decide +kernel
theorem dX0_startsGroup_13 : decode cX0_startsGroup 13 = .ok (.iaload, 1) := by decide +kernel
theorem dX0_startsGroup_14 : decode cX0_startsGroup 14 = .ok (.iload_n 2, 1) := by decide +kernel
theorem dX0_startsGroup_15 : decode cX0_startsGroup 15 = .ok (.invokestatic 52, 3) := by decide +kernel
theorem dX0_startsGroup_18 : decode cX0_startsGroup 18 = .ok (.laload, 1) := by decide +kernel
theorem dX0_startsGroup_19 : decode cX0_startsGroup 19 = .ok (.aload_n 0, 1) := by decide +kernel
theorem dX0_startsGroup_20 : decode cX0_startsGroup 20 = .ok (.getfield 9, 3) := by decide +kernel
theorem dX0_startsGroup_23 : decode cX0_startsGroup 23 = .ok (.aload_n 0, 1) := by decide +kernel
theorem dX0_startsGroup_24 : decode cX0_startsGroup 24 = .ok (.getfield 42, 3) := by decide +kernel
theorem dX0_startsGroup_27 : decode cX0_startsGroup 27 = .ok (.iload_n 1, 1) := by decide +kernel
theorem dX0_startsGroup_28 : decode cX0_startsGroup 28 = .ok (.iconst 1, 1) := by decide +kernel
theorem dX0_startsGroup_29 : decode cX0_startsGroup 29 = .ok (.isub, 1) := by decide +kernel
theorem dX0_startsGroup_30 : decode cX0_startsGroup 30 = .ok (.iaload, 1) := by decide +kernel
theorem dX0_startsGroup_31 : decode cX0_startsGroup 31 = .ok (.iload_n 2, 1) := by decide +kernel
theorem dX0_startsGroup_32 : decode cX0_startsGroup 32 = .ok (.invokestatic 52, 3) := by decide +kernel
theorem dX0_startsGroup_35 : decode cX0_startsGroup 35 = .ok (.laload, 1) := by decide +kernel
theorem dX0_startsGroup_36 : decode cX0_startsGroup 36 = .ok (.lcmp, 1) := by decide +kernel
theorem dX0_startsGroup_37 : decode cX0_startsGroup 37 = .ok (.ifCond .eq 7, 3) := by decide +kernel
theorem dX0_startsGroup_40 : decode cX0_startsGroup 40 = .ok (.iconst 1, 1) := by decide +kernel
theorem dX0_startsGroup_41 : decode cX0_startsGroup 41 = .ok (.goto 4, 3) := by decide +kernel
theorem dX0_startsGroup_44 : decode cX0_startsGroup 44 = .ok (.iconst 0, 1) := by decide +kernel
theorem dX0_startsGroup_45 : decode cX0_startsGroup 45 = .ok (.ireturn, 1) := by decide +kernel
theorem dX0_groupStart_0 : decode cX0_groupStart 0 = .ok (.iconst 0, 1) := by decide +kernel
theorem dX0_groupStart_1 : decode cX0_groupStart 1 = .ok (.istore 4, 2) := by decide +kernel
theorem dX0_groupStart_3 : decode cX0_groupStart 3 = .ok (.iconst 0, 1) := by decide +kernel
theorem dX0_groupStart_4 : decode cX0_groupStart 4 = .ok (.istore 5, 2) := by decide +kernel
theorem dX0_groupStart_6 : decode cX0_groupStart 6 = .ok (.iload 5, 2) := by decide +kernel
theorem dX0_groupStart_8 : decode cX0_groupStart 8 = .ok (.iload_n 3, 1) := by decide +kernel
theorem dX0_groupStart_9 : decode cX0_groupStart 9 = .ok (.if_icmp .ge 31, 3) := by decide +kernel
theorem dX0_groupStart_12 : decode cX0_groupStart 12 = .ok (.aload_n 0, 1) := by decide +kernel
theorem dX0_groupStart_13 : decode cX0_groupStart 13 = .ok (.iload 5, 2) := by decide +kernel
theorem dX0_groupStart_15 : decode cX0_groupStart 15 = .ok (.iload_n 2, 1) := by decide +kernel
theorem dX0_groupStart_16 : decode cX0_groupStart 16 = .ok (.invokevirtual 105, 3) := by decide +kernel
theorem dX0_groupStart_19 : decode cX0_groupStart 19 = .ok (.ifCond .eq 15, 3) := by decide +kernel
theorem dX0_groupStart_22 : decode cX0_groupStart 22 = .ok (.iload 4, 2) := by decide +kernel
theorem dX0_groupStart_24 : decode cX0_groupStart 24 = .ok (.iload_n 1, 1) := by decide +kernel
theorem dX0_groupStart_25 : decode cX0_groupStart 25 = .ok (.if_icmp .ne 6, 3) := by decide +kernel
theorem dX0_groupStart_28 : decode cX0_groupStart 28 = .ok (.iload 5, 2) := by decide +kernel
theorem dX0_groupStart_30 : decode cX0_groupStart 30 = .ok (.ireturn, 1) := by decide +kernel
theorem dX0_groupStart_31 : decode cX0_groupStart 31 = .ok (.iinc 4 1, 3) := by decide +kernel
theorem dX0_groupStart_34 : decode cX0_groupStart 34 = .ok (.iinc 5 1, 3) := by decide +kernel
theorem dX0_groupStart_37 : decode cX0_groupStart 37 = .ok (.goto (-31), 3) := by decide +kernel
theorem dX0_groupStart_40 : decode cX0_groupStart 40 = .ok (.iconst (-1), 1) := by decide +kernel
theorem dX0_groupStart_41 : decode cX0_groupStart 41 = .ok (.ireturn, 1) := by decide +kernel
theorem dX0_groupEnd_0 : decode cX0_groupEnd 0 = .ok (.iload_n 1, 1) := by decide +kernel
theorem dX0_groupEnd_1 : decode cX0_groupEnd 1 = .ok (.iconst 1, 1) := by decide +kernel
theorem dX0_groupEnd_2 : decode cX0_groupEnd 2 = .ok (.iadd, 1) := by decide +kernel
theorem dX0_groupEnd_3 : decode cX0_groupEnd 3 = .ok (.istore 4, 2) := by decide +kernel
theorem dX0_groupEnd_5 : decode cX0_groupEnd 5 = .ok (.iload 4, 2) := by decide +kernel
theorem dX0_groupEnd_7 : decode cX0_groupEnd 7 = .ok (.iload_n 3, 1) := by decide +kernel
theorem dX0_groupEnd_8 : decode cX0_groupEnd 8 = .ok (.if_icmp .ge 22, 3) := by decide +kernel
theorem dX0_groupEnd_11 : decode cX0_groupEnd 11 = .ok (.aload_n 0, 1) := by decide +kernel
theorem dX0_groupEnd_12 : decode cX0_groupEnd 12 = .ok (.iload 4, 2) := by decide +kernel
theorem dX0_groupEnd_14 : decode cX0_groupEnd 14 = .ok (.iload_n 2, 1) := by decide +kernel
theorem dX0_groupEnd_15 : decode cX0_groupEnd 15 = .ok (.invokevirtual 105, 3) := by decide +kernel
theorem dX0_groupEnd_18 : decode cX0_groupEnd 18 = .ok (.ifCond .eq 6, 3) := by decide +kernel
theorem dX0_groupEnd_21 : decode cX0_groupEnd 21 = .ok (.iload 4, 2) := by decide +kernel
theorem dX0_groupEnd_23 : decode cX0_groupEnd 23 = .ok (.ireturn, 1) := by decide +kernel
theorem dX0_groupEnd_24 : decode cX0_groupEnd 24 = .ok (.iinc 4 1, 3) := by decide +kernel
theorem dX0_groupEnd_27 : decode cX0_groupEnd 27 = .ok (.goto (-22), 3) := by decide +kernel
theorem dX0_groupEnd_30 : decode cX0_groupEnd 30 = .ok (.iload_n 3, 1) := by decide +kernel
theorem dX0_groupEnd_31 : decode cX0_groupEnd 31 = .ok (.ireturn, 1) := by decide +kernel
theorem dX0_packFullBlocks_0 : decode cX0_packFullBlocks 0 = .ok (.iconst 0, 1) := by decide +kernel
theorem dX0_packFullBlocks_1 : decode cX0_packFullBlocks 1 = .ok (.istore_n 1, 1) := by decide +kernel
theorem dX0_packFullBlocks_2 : decode cX0_packFullBlocks 2 = .ok (.iload_n 1, 1) := by decide +kernel
theorem dX0_packFullBlocks_3 : decode cX0_packFullBlocks 3 = .ok (.aload_n 0, 1) := by decide +kernel
theorem dX0_packFullBlocks_4 : decode cX0_packFullBlocks 4 = .ok (.invokevirtual 135, 3) := by decide +kernel
theorem dX0_packFullBlocks_7 : decode cX0_packFullBlocks 7 = .ok (.if_icmp .ge 14, 3) := by decide +kernel
theorem dX0_packFullBlocks_10 : decode cX0_packFullBlocks 10 = .ok (.aload_n 0, 1) := by decide +kernel
theorem dX0_packFullBlocks_11 : decode cX0_packFullBlocks 11 = .ok (.iload_n 1, 1) := by decide +kernel
theorem dX0_packFullBlocks_12 : decode cX0_packFullBlocks 12 = .ok (.invokevirtual 56, 3) := by decide +kernel
theorem dX0_packFullBlocks_15 : decode cX0_packFullBlocks 15 = .ok (.iinc 1 1, 3) := by decide +kernel
theorem dX0_packFullBlocks_18 : decode cX0_packFullBlocks 18 = .ok (.goto (-16), 3) := by decide +kernel
theorem dX0_packFullBlocks_21 : decode cX0_packFullBlocks 21 = .ok (.return_, 1) := by decide +kernel
theorem dX0_packBlock_0 : decode cX0_packBlock 0 = .ok (.iconst 0, 1) := by decide +kernel
theorem dX0_packBlock_1 : decode cX0_packBlock 1 = .ok (.istore_n 2, 1) := by decide +kernel
theorem dX0_packBlock_2 : decode cX0_packBlock 2 = .ok (.iload_n 2, 1) := by decide +kernel
theorem dX0_packBlock_3 : decode cX0_packBlock 3 = .ok (.iconst 4, 1) := by decide +kernel
theorem dX0_packBlock_4 : decode cX0_packBlock 4 = .ok (.if_icmp .ge 15, 3) := by decide +kernel
theorem dX0_packBlock_7 : decode cX0_packBlock 7 = .ok (.aload_n 0, 1) := by decide +kernel
theorem dX0_packBlock_8 : decode cX0_packBlock 8 = .ok (.iload_n 1, 1) := by decide +kernel
theorem dX0_packBlock_9 : decode cX0_packBlock 9 = .ok (.iload_n 2, 1) := by decide +kernel
theorem dX0_packBlock_10 : decode cX0_packBlock 10 = .ok (.invokevirtual 159, 3) := by decide +kernel
theorem dX0_packBlock_13 : decode cX0_packBlock 13 = .ok (.iinc 2 1, 3) := by decide +kernel
theorem dX0_packBlock_16 : decode cX0_packBlock 16 = .ok (.goto (-14), 3) := by decide +kernel
theorem dX0_packBlock_19 : decode cX0_packBlock 19 = .ok (.return_, 1) := by decide +kernel
theorem dX0_packColumn_0 : decode cX0_packColumn 0 = .ok (.iload_n 1, 1) := by decide +kernel
theorem dX0_packColumn_1 : decode cX0_packColumn 1 = .ok (.bipush 16, 2) := by decide +kernel
theorem dX0_packColumn_3 : decode cX0_packColumn 3 = .ok (.imul, 1) := by decide +kernel
theorem dX0_packColumn_4 : decode cX0_packColumn 4 = .ok (.iload_n 2, 1) := by decide +kernel
theorem dX0_packColumn_5 : decode cX0_packColumn 5 = .ok (.invokestatic 52, 3) := by decide +kernel
theorem dX0_packColumn_8 : decode cX0_packColumn 8 = .ok (.istore_n 3, 1) := by decide +kernel
theorem dX0_packColumn_9 : decode cX0_packColumn 9 = .ok (.iload_n 1, 1) := by decide +kernel
theorem dX0_packColumn_10 : decode cX0_packColumn 10 = .ok (.iload_n 2, 1) := by decide +kernel
theorem dX0_packColumn_11 : decode cX0_packColumn 11 = .ok (.invokestatic 123, 3) := by decide +kernel
theorem dX0_packColumn_14 : decode cX0_packColumn 14 = .ok (.istore 4, 2) := by decide +kernel
theorem dX0_packColumn_16 : decode cX0_packColumn 16 = .ok (.iload_n 2, 1) := by decide +kernel
theorem dX0_packColumn_17 : decode cX0_packColumn 17 = .ok (.iconst 3, 1) := by decide +kernel
theorem dX0_packColumn_18 : decode cX0_packColumn 18 = .ok (.if_icmp .ne 8, 3) := by decide +kernel
theorem dX0_packColumn_21 : decode cX0_packColumn 21 = .ok (.bipush 64, 2) := by decide +kernel
theorem dX0_packColumn_23 : decode cX0_packColumn 23 = .ok (.goto 5, 3) := by decide +kernel
theorem dX0_packColumn_26 : decode cX0_packColumn 26 = .ok (.bipush 32, 2) := by decide +kernel
theorem dX0_packColumn_28 : decode cX0_packColumn 28 = .ok (.istore 5, 2) := by decide +kernel
theorem dX0_packColumn_30 : decode cX0_packColumn 30 = .ok (.aload_n 0, 1) := by decide +kernel
theorem dX0_packColumn_31 : decode cX0_packColumn 31 = .ok (.iload_n 3, 1) := by decide +kernel
theorem dX0_packColumn_32 : decode cX0_packColumn 32 = .ok (.iload 4, 2) := by decide +kernel
theorem dX0_packColumn_34 : decode cX0_packColumn 34 = .ok (.invokevirtual 162, 3) := by decide +kernel
theorem dX0_packColumn_37 : decode cX0_packColumn 37 = .ok (.aload_n 0, 1) := by decide +kernel
theorem dX0_packColumn_38 : decode cX0_packColumn 38 = .ok (.iload_n 3, 1) := by decide +kernel
theorem dX0_packColumn_39 : decode cX0_packColumn 39 = .ok (.invokevirtual 165, 3) := by decide +kernel
theorem dX0_packColumn_42 : decode cX0_packColumn 42 = .ok (.istore 6, 2) := by decide +kernel
theorem dX0_packColumn_44 : decode cX0_packColumn 44 = .ok (.aload_n 0, 1) := by decide +kernel
theorem dX0_packColumn_45 : decode cX0_packColumn 45 = .ok (.getfield 33, 3) := by decide +kernel
theorem dX0_packColumn_48 : decode cX0_packColumn 48 = .ok (.iload 4, 2) := by decide +kernel
theorem dX0_packColumn_50 : decode cX0_packColumn 50 = .ok (.laload, 1) := by decide +kernel
theorem dX0_packColumn_51 : decode cX0_packColumn 51 = .ok (.aload_n 0, 1) := by decide +kernel
theorem dX0_packColumn_52 : decode cX0_packColumn 52 = .ok (.getfield 30, 3) := by decide +kernel
theorem dX0_packColumn_55 : decode cX0_packColumn 55 = .ok (.iload 4, 2) := by decide +kernel
theorem dX0_packColumn_57 : decode cX0_packColumn 57 = .ok (.laload, 1) := by decide +kernel
theorem dX0_packColumn_58 : decode cX0_packColumn 58 = .ok (.lsub, 1) := by decide +kernel
theorem dX0_packColumn_59 : decode cX0_packColumn 59 = .ok (.invokestatic 169, 3) := by decide +kernel
theorem dX0_packColumn_62 : decode cX0_packColumn 62 = .ok (.istore 7, 2) := by decide +kernel
theorem dX0_packColumn_64 : decode cX0_packColumn 64 = .ok (.aload_n 0, 1) := by decide +kernel
theorem dX0_packColumn_65 : decode cX0_packColumn 65 = .ok (.getfield 36, 3) := by decide +kernel
theorem dX0_packColumn_68 : decode cX0_packColumn 68 = .ok (.iload 4, 2) := by decide +kernel
theorem dX0_packColumn_70 : decode cX0_packColumn 70 = .ok (.iconst 0, 1) := by decide +kernel
theorem dX0_packColumn_71 : decode cX0_packColumn 71 = .ok (.iastore, 1) := by decide +kernel
theorem dX0_packColumn_72 : decode cX0_packColumn 72 = .ok (.aload_n 0, 1) := by decide +kernel
theorem dX0_packColumn_73 : decode cX0_packColumn 73 = .ok (.getfield 39, 3) := by decide +kernel
theorem dX0_packColumn_76 : decode cX0_packColumn 76 = .ok (.iload 4, 2) := by decide +kernel
theorem dX0_packColumn_78 : decode cX0_packColumn 78 = .ok (.bipush 16, 2) := by decide +kernel
theorem dX0_packColumn_80 : decode cX0_packColumn 80 = .ok (.iload 5, 2) := by decide +kernel
theorem dX0_packColumn_82 : decode cX0_packColumn 82 = .ok (.imul, 1) := by decide +kernel
theorem dX0_packColumn_83 : decode cX0_packColumn 83 = .ok (.iastore, 1) := by decide +kernel
theorem dX0_packColumn_84 : decode cX0_packColumn 84 = .ok (.aload_n 0, 1) := by decide +kernel
theorem dX0_packColumn_85 : decode cX0_packColumn 85 = .ok (.iload 4, 2) := by decide +kernel
theorem dX0_packColumn_87 : decode cX0_packColumn 87 = .ok (.iconst 1, 1) := by decide +kernel
theorem dX0_packColumn_88 : decode cX0_packColumn 88 = .ok (.aload_n 0, 1) := by decide +kernel
theorem dX0_packColumn_89 : decode cX0_packColumn 89 = .ok (.iload_n 3, 1) := by decide +kernel
theorem dX0_packColumn_90 : decode cX0_packColumn 90 = .ok (.invokevirtual 173, 3) := by decide +kernel
theorem dX0_packColumn_93 : decode cX0_packColumn 93 = .ok (.iload 5, 2) := by decide +kernel
theorem dX0_packColumn_95 : decode cX0_packColumn 95 = .ok (.iconst 5, 1) := by decide +kernel
theorem dX0_packColumn_96 : decode cX0_packColumn 96 = .ok (.iadd, 1) := by decide +kernel
theorem dX0_packColumn_97 : decode cX0_packColumn 97 = .ok (.imul, 1) := by decide +kernel
theorem dX0_packColumn_98 : decode cX0_packColumn 98 = .ok (.invokevirtual 176, 3) := by decide +kernel
theorem dX0_packColumn_101 : decode cX0_packColumn 101 = .ok (.aload_n 0, 1) := by decide +kernel
theorem dX0_packColumn_102 : decode cX0_packColumn 102 = .ok (.iload 4, 2) := by decide +kernel
theorem dX0_packColumn_104 : decode cX0_packColumn 104 = .ok (.iconst 2, 1) := by decide +kernel
theorem dX0_packColumn_105 : decode cX0_packColumn 105 = .ok (.iload 6, 2) := by decide +kernel
theorem dX0_packColumn_107 : decode cX0_packColumn 107 = .ok (.iload 5, 2) := by decide +kernel
theorem dX0_packColumn_109 : decode cX0_packColumn 109 = .ok (.imul, 1) := by decide +kernel
theorem dX0_packColumn_110 : decode cX0_packColumn 110 = .ok (.bipush 16, 2) := by decide +kernel
theorem dX0_packColumn_112 : decode cX0_packColumn 112 = .ok (.iload 6, 2) := by decide +kernel
theorem dX0_packColumn_114 : decode cX0_packColumn 114 = .ok (.iconst 1, 1) := by decide +kernel
theorem dX0_packColumn_115 : decode cX0_packColumn 115 = .ok (.isub, 1) := by decide +kernel
theorem dX0_packColumn_116 : decode cX0_packColumn 116 = .ok (.i2l, 1) := by decide +kernel
theorem dX0_packColumn_117 : decode cX0_packColumn 117 = .ok (.invokestatic 169, 3) := by decide +kernel
theorem dX0_packColumn_120 : decode cX0_packColumn 120 = .ok (.imul, 1) := by decide +kernel
theorem dX0_packColumn_121 : decode cX0_packColumn 121 = .ok (.iadd, 1) := by decide +kernel
theorem dX0_packColumn_122 : decode cX0_packColumn 122 = .ok (.invokevirtual 176, 3) := by decide +kernel
theorem dX0_packColumn_125 : decode cX0_packColumn 125 = .ok (.aload_n 0, 1) := by decide +kernel
theorem dX0_packColumn_126 : decode cX0_packColumn 126 = .ok (.iload 4, 2) := by decide +kernel
theorem dX0_packColumn_128 : decode cX0_packColumn 128 = .ok (.iconst 3, 1) := by decide +kernel
theorem dX0_packColumn_129 : decode cX0_packColumn 129 = .ok (.iload 5, 2) := by decide +kernel
theorem dX0_packColumn_131 : decode cX0_packColumn 131 = .ok (.bipush 7, 2) := by decide +kernel
theorem dX0_packColumn_133 : decode cX0_packColumn 133 = .ok (.iadd, 1) := by decide +kernel
theorem dX0_packColumn_134 : decode cX0_packColumn 134 = .ok (.bipush 16, 2) := by decide +kernel
theorem dX0_packColumn_136 : decode cX0_packColumn 136 = .ok (.iload 7, 2) := by decide +kernel
theorem dX0_packColumn_138 : decode cX0_packColumn 138 = .ok (.imul, 1) := by decide +kernel
theorem dX0_packColumn_139 : decode cX0_packColumn 139 = .ok (.iadd, 1) := by decide +kernel
theorem dX0_packColumn_140 : decode cX0_packColumn 140 = .ok (.invokevirtual 176, 3) := by decide +kernel
theorem dX0_packColumn_143 : decode cX0_packColumn 143 = .ok (.return_, 1) := by decide +kernel
theorem dX0_offerWay_0 : decode cX0_offerWay 0 = .ok (.iload_n 3, 1) := by decide +kernel
theorem dX0_offerWay_1 : decode cX0_offerWay 1 = .ok (.aload_n 0, 1) := by decide +kernel
theorem dX0_offerWay_2 : decode cX0_offerWay 2 = .ok (.getfield 39, 3) := by decide +kernel
theorem dX0_offerWay_5 : decode cX0_offerWay 5 = .ok (.iload_n 1, 1) := by decide +kernel
theorem dX0_offerWay_6 : decode cX0_offerWay 6 = .ok (.iaload, 1) := by decide +kernel
theorem dX0_offerWay_7 : decode cX0_offerWay 7 = .ok (.if_icmp .ge 17, 3) := by decide +kernel
theorem dX0_offerWay_10 : decode cX0_offerWay 10 = .ok (.aload_n 0, 1) := by decide +kernel
theorem dX0_offerWay_11 : decode cX0_offerWay 11 = .ok (.getfield 36, 3) := by decide +kernel
theorem dX0_offerWay_14 : decode cX0_offerWay 14 = .ok (.iload_n 1, 1) := by decide +kernel
theorem dX0_offerWay_15 : decode cX0_offerWay 15 = .ok (.iload_n 2, 1) := by decide +kernel
theorem dX0_offerWay_16 : decode cX0_offerWay 16 = .ok (.iastore, 1) := by decide +kernel
theorem dX0_offerWay_17 : decode cX0_offerWay 17 = .ok (.aload_n 0, 1) := by decide +kernel
theorem dX0_offerWay_18 : decode cX0_offerWay 18 = .ok (.getfield 39, 3) := by decide +kernel
theorem dX0_offerWay_21 : decode cX0_offerWay 21 = .ok (.iload_n 1, 1) := by decide +kernel
theorem dX0_offerWay_22 : decode cX0_offerWay 22 = .ok (.iload_n 3, 1) := by decide +kernel
theorem dX0_offerWay_23 : decode cX0_offerWay 23 = .ok (.iastore, 1) := by decide +kernel
theorem dX0_offerWay_24 : decode cX0_offerWay 24 = .ok (.return_, 1) := by decide +kernel
theorem dX0_noteBounds_0 : decode cX0_noteBounds 0 = .ok (.aload_n 0, 1) := by decide +kernel
theorem dX0_noteBounds_1 : decode cX0_noteBounds 1 = .ok (.getfield 9, 3) := by decide +kernel
theorem dX0_noteBounds_4 : decode cX0_noteBounds 4 = .ok (.iload_n 1, 1) := by decide +kernel
theorem dX0_noteBounds_5 : decode cX0_noteBounds 5 = .ok (.laload, 1) := by decide +kernel
theorem dX0_noteBounds_6 : decode cX0_noteBounds 6 = .ok (.lstore_n 3, 1) := by decide +kernel
theorem dX0_noteBounds_7 : decode cX0_noteBounds 7 = .ok (.aload_n 0, 1) := by decide +kernel
theorem dX0_noteBounds_8 : decode cX0_noteBounds 8 = .ok (.getfield 9, 3) := by decide +kernel
theorem dX0_noteBounds_11 : decode cX0_noteBounds 11 = .ok (.iload_n 1, 1) := by decide +kernel
theorem dX0_noteBounds_12 : decode cX0_noteBounds 12 = .ok (.laload, 1) := by decide +kernel
theorem dX0_noteBounds_13 : decode cX0_noteBounds 13 = .ok (.lstore 5, 2) := by decide +kernel
theorem dX0_noteBounds_15 : decode cX0_noteBounds 15 = .ok (.iload_n 1, 1) := by decide +kernel
theorem dX0_noteBounds_16 : decode cX0_noteBounds 16 = .ok (.iconst 1, 1) := by decide +kernel
theorem dX0_noteBounds_17 : decode cX0_noteBounds 17 = .ok (.iadd, 1) := by decide +kernel
theorem dX0_noteBounds_18 : decode cX0_noteBounds 18 = .ok (.istore 7, 2) := by decide +kernel
theorem dX0_noteBounds_20 : decode cX0_noteBounds 20 = .ok (.iload 7, 2) := by decide +kernel
theorem dX0_noteBounds_22 : decode cX0_noteBounds 22 = .ok (.iload_n 1, 1) := by decide +kernel
theorem dX0_noteBounds_23 : decode cX0_noteBounds 23 = .ok (.bipush 16, 2) := by decide +kernel
theorem dX0_noteBounds_25 : decode cX0_noteBounds 25 = .ok (.iadd, 1) := by decide +kernel
theorem dX0_noteBounds_26 : decode cX0_noteBounds 26 = .ok (.if_icmp .ge 35, 3) := by decide +kernel
theorem dX0_noteBounds_29 : decode cX0_noteBounds 29 = .ok (.lload_n 3, 1) := by decide +kernel
theorem dX0_noteBounds_30 : decode cX0_noteBounds 30 = .ok (.aload_n 0, 1) := by decide +kernel
theorem dX0_noteBounds_31 : decode cX0_noteBounds 31 = .ok (.getfield 9, 3) := by decide +kernel
theorem dX0_noteBounds_34 : decode cX0_noteBounds 34 = .ok (.iload 7, 2) := by decide +kernel
theorem dX0_noteBounds_36 : decode cX0_noteBounds 36 = .ok (.laload, 1) := by decide +kernel
theorem dX0_noteBounds_37 : decode cX0_noteBounds 37 = .ok (.invokestatic 180, 3) := by decide +kernel
theorem dX0_noteBounds_40 : decode cX0_noteBounds 40 = .ok (.lstore_n 3, 1) := by decide +kernel
theorem dX0_noteBounds_41 : decode cX0_noteBounds 41 = .ok (.lload 5, 2) := by decide +kernel
theorem dX0_noteBounds_43 : decode cX0_noteBounds 43 = .ok (.aload_n 0, 1) := by decide +kernel
theorem dX0_noteBounds_44 : decode cX0_noteBounds 44 = .ok (.getfield 9, 3) := by decide +kernel
theorem dX0_noteBounds_47 : decode cX0_noteBounds 47 = .ok (.iload 7, 2) := by decide +kernel
theorem dX0_noteBounds_49 : decode cX0_noteBounds 49 = .ok (.laload, 1) := by decide +kernel
theorem dX0_noteBounds_50 : decode cX0_noteBounds 50 = .ok (.invokestatic 183, 3) := by decide +kernel
theorem dX0_noteBounds_53 : decode cX0_noteBounds 53 = .ok (.lstore 5, 2) := by decide +kernel
theorem dX0_noteBounds_55 : decode cX0_noteBounds 55 = .ok (.iinc 7 1, 3) := by decide +kernel
theorem dX0_noteBounds_58 : decode cX0_noteBounds 58 = .ok (.goto (-38), 3) := by decide +kernel
theorem dX0_noteBounds_61 : decode cX0_noteBounds 61 = .ok (.aload_n 0, 1) := by decide +kernel
theorem dX0_noteBounds_62 : decode cX0_noteBounds 62 = .ok (.getfield 30, 3) := by decide +kernel
theorem dX0_noteBounds_65 : decode cX0_noteBounds 65 = .ok (.iload_n 2, 1) := by decide +kernel
theorem dX0_noteBounds_66 : decode cX0_noteBounds 66 = .ok (.lload_n 3, 1) := by decide +kernel
theorem dX0_noteBounds_67 : decode cX0_noteBounds 67 = .ok (.lastore, 1) := by decide +kernel
theorem dX0_noteBounds_68 : decode cX0_noteBounds 68 = .ok (.aload_n 0, 1) := by decide +kernel
theorem dX0_noteBounds_69 : decode cX0_noteBounds 69 = .ok (.getfield 33, 3) := by decide +kernel
theorem dX0_noteBounds_72 : decode cX0_noteBounds 72 = .ok (.iload_n 2, 1) := by decide +kernel
theorem dX0_noteBounds_73 : decode cX0_noteBounds 73 = .ok (.lload 5, 2) := by decide +kernel
theorem dX0_noteBounds_75 : decode cX0_noteBounds 75 = .ok (.lastore, 1) := by decide +kernel
theorem dX0_noteBounds_76 : decode cX0_noteBounds 76 = .ok (.return_, 1) := by decide +kernel
theorem dX0_runsOfCells_0 : decode cX0_runsOfCells 0 = .ok (.iconst 1, 1) := by decide +kernel
theorem dX0_runsOfCells_1 : decode cX0_runsOfCells 1 = .ok (.istore_n 2, 1) := by decide +kernel
theorem dX0_runsOfCells_2 : decode cX0_runsOfCells 2 = .ok (.iload_n 1, 1) := by decide +kernel
theorem dX0_runsOfCells_3 : decode cX0_runsOfCells 3 = .ok (.iconst 1, 1) := by decide +kernel
theorem dX0_runsOfCells_4 : decode cX0_runsOfCells 4 = .ok (.iadd, 1) := by decide +kernel
theorem dX0_runsOfCells_5 : decode cX0_runsOfCells 5 = .ok (.istore_n 3, 1) := by decide +kernel
theorem dX0_runsOfCells_6 : decode cX0_runsOfCells 6 = .ok (.iload_n 3, 1) := by decide +kernel
theorem dX0_runsOfCells_7 : decode cX0_runsOfCells 7 = .ok (.iload_n 1, 1) := by decide +kernel
theorem dX0_runsOfCells_8 : decode cX0_runsOfCells 8 = .ok (.bipush 16, 2) := by decide +kernel
theorem dX0_runsOfCells_10 : decode cX0_runsOfCells 10 = .ok (.iadd, 1) := by decide +kernel
theorem dX0_runsOfCells_11 : decode cX0_runsOfCells 11 = .ok (.if_icmp .ge 30, 3) := by decide +kernel
theorem dX0_runsOfCells_14 : decode cX0_runsOfCells 14 = .ok (.aload_n 0, 1) := by decide +kernel
theorem dX0_runsOfCells_15 : decode cX0_runsOfCells 15 = .ok (.getfield 9, 3) := by decide +kernel
theorem dX0_runsOfCells_18 : decode cX0_runsOfCells 18 = .ok (.iload_n 3, 1) := by decide +kernel
theorem dX0_runsOfCells_19 : decode cX0_runsOfCells 19 = .ok (.laload, 1) := by decide +kernel
theorem dX0_runsOfCells_20 : decode cX0_runsOfCells 20 = .ok (.aload_n 0, 1) := by decide +kernel
theorem dX0_runsOfCells_21 : decode cX0_runsOfCells 21 = .ok (.getfield 9, 3) := by decide +kernel
theorem dX0_runsOfCells_24 : decode cX0_runsOfCells 24 = .ok (.iload_n 3, 1) := by decide +kernel
theorem dX0_runsOfCells_25 : decode cX0_runsOfCells 25 = .ok (.iconst 1, 1) := by decide +kernel
theorem dX0_runsOfCells_26 : decode cX0_runsOfCells 26 = .ok (.isub, 1) := by decide +kernel
theorem dX0_runsOfCells_27 : decode cX0_runsOfCells 27 = .ok (.laload, 1) := by decide +kernel
theorem dX0_runsOfCells_28 : decode cX0_runsOfCells 28 = .ok (.lcmp, 1) := by decide +kernel
theorem dX0_runsOfCells_29 : decode cX0_runsOfCells 29 = .ok (.ifCond .eq 6, 3) := by decide +kernel
theorem dX0_runsOfCells_32 : decode cX0_runsOfCells 32 = .ok (.iinc 2 1, 3) := by decide +kernel
theorem dX0_runsOfCells_35 : decode cX0_runsOfCells 35 = .ok (.iinc 3 1, 3) := by decide +kernel
theorem dX0_runsOfCells_38 : decode cX0_runsOfCells 38 = .ok (.goto (-32), 3) := by decide +kernel
theorem dX0_runsOfCells_41 : decode cX0_runsOfCells 41 = .ok (.iload_n 2, 1) := by decide +kernel
theorem dX0_runsOfCells_42 : decode cX0_runsOfCells 42 = .ok (.ireturn, 1) := by decide +kernel
theorem dX0_differentCells_0 : decode cX0_differentCells 0 = .ok (.iconst 0, 1) := by decide +kernel
theorem dX0_differentCells_1 : decode cX0_differentCells 1 = .ok (.istore_n 2, 1) := by decide +kernel
theorem dX0_differentCells_2 : decode cX0_differentCells 2 = .ok (.iload_n 1, 1) := by decide +kernel
theorem dX0_differentCells_3 : decode cX0_differentCells 3 = .ok (.istore_n 3, 1) := by decide +kernel
theorem dX0_differentCells_4 : decode cX0_differentCells 4 = .ok (.iload_n 3, 1) := by decide +kernel
theorem dX0_differentCells_5 : decode cX0_differentCells 5 = .ok (.iload_n 1, 1) := by decide +kernel
theorem dX0_differentCells_6 : decode cX0_differentCells 6 = .ok (.bipush 16, 2) := by decide +kernel
theorem dX0_differentCells_8 : decode cX0_differentCells 8 = .ok (.iadd, 1) := by decide +kernel
theorem dX0_differentCells_9 : decode cX0_differentCells 9 = .ok (.if_icmp .ge 21, 3) := by decide +kernel
theorem dX0_differentCells_12 : decode cX0_differentCells 12 = .ok (.aload_n 0, 1) := by decide +kernel
theorem dX0_differentCells_13 : decode cX0_differentCells 13 = .ok (.iload_n 1, 1) := by decide +kernel
theorem dX0_differentCells_14 : decode cX0_differentCells 14 = .ok (.iload_n 3, 1) := by decide +kernel
theorem dX0_differentCells_15 : decode cX0_differentCells 15 = .ok (.invokevirtual 186, 3) := by decide +kernel
theorem dX0_differentCells_18 : decode cX0_differentCells 18 = .ok (.ifCond .ne 6, 3) := by decide +kernel
theorem dX0_differentCells_21 : decode cX0_differentCells 21 = .ok (.iinc 2 1, 3) := by decide +kernel
theorem dX0_differentCells_24 : decode cX0_differentCells 24 = .ok (.iinc 3 1, 3) := by decide +kernel
theorem dX0_differentCells_27 : decode cX0_differentCells 27 = .ok (.goto (-23), 3) := by decide +kernel
theorem dX0_differentCells_30 : decode cX0_differentCells 30 = .ok (.iload_n 2, 1) := by decide +kernel
theorem dX0_differentCells_31 : decode cX0_differentCells 31 = .ok (.ireturn, 1) := by decide +kernel
theorem dX0_stoodBefore_0 : decode cX0_stoodBefore 0 = .ok (.iload_n 1, 1) := by decide +kernel
theorem dX0_stoodBefore_1 : decode cX0_stoodBefore 1 = .ok (.istore_n 3, 1) := by decide +kernel
theorem dX0_stoodBefore_2 : decode cX0_stoodBefore 2 = .ok (.iload_n 3, 1) := by decide +kernel
theorem dX0_stoodBefore_3 : decode cX0_stoodBefore 3 = .ok (.iload_n 2, 1) := by decide +kernel
theorem dX0_stoodBefore_4 : decode cX0_stoodBefore 4 = .ok (.if_icmp .ge 27, 3) := by decide +kernel
theorem dX0_stoodBefore_7 : decode cX0_stoodBefore 7 = .ok (.aload_n 0, 1) := by decide +kernel
theorem dX0_stoodBefore_8 : decode cX0_stoodBefore 8 = .ok (.getfield 9, 3) := by decide +kernel
theorem dX0_stoodBefore_11 : decode cX0_stoodBefore 11 = .ok (.iload_n 3, 1) := by decide +kernel
theorem dX0_stoodBefore_12 : decode cX0_stoodBefore 12 = .ok (.laload, 1) := by decide +kernel
theorem dX0_stoodBefore_13 : decode cX0_stoodBefore 13 = .ok (.aload_n 0, 1) := by decide +kernel
theorem dX0_stoodBefore_14 : decode cX0_stoodBefore 14 = .ok (.getfield 9, 3) := by decide +kernel
theorem dX0_stoodBefore_17 : decode cX0_stoodBefore 17 = .ok (.iload_n 2, 1) := by decide +kernel
theorem dX0_stoodBefore_18 : decode cX0_stoodBefore 18 = .ok (.laload, 1) := by decide +kernel
theorem dX0_stoodBefore_19 : decode cX0_stoodBefore 19 = .ok (.lcmp, 1) := by decide +kernel
theorem dX0_stoodBefore_20 : decode cX0_stoodBefore 20 = .ok (.ifCond .ne 5, 3) := by decide +kernel
theorem dX0_stoodBefore_23 : decode cX0_stoodBefore 23 = .ok (.iconst 1, 1) := by decide +kernel
theorem dX0_stoodBefore_24 : decode cX0_stoodBefore 24 = .ok (.ireturn, 1) := by decide +kernel
theorem dX0_stoodBefore_25 : decode cX0_stoodBefore 25 = .ok (.iinc 3 1, 3) := by decide +kernel
theorem dX0_stoodBefore_28 : decode cX0_stoodBefore 28 = .ok (.goto (-26), 3) := by decide +kernel
theorem dX0_stoodBefore_31 : decode cX0_stoodBefore 31 = .ok (.iconst 0, 1) := by decide +kernel
theorem dX0_stoodBefore_32 : decode cX0_stoodBefore 32 = .ok (.ireturn, 1) := by decide +kernel
theorem dX0_widthOf_0 : decode cX0_widthOf 0 = .ok (.iconst 0, 1) := by decide +kernel
theorem dX0_widthOf_1 : decode cX0_widthOf 1 = .ok (.istore_n 2, 1) := by decide +kernel
theorem dX0_widthOf_2 : decode cX0_widthOf 2 = .ok (.iload_n 2, 1) := by decide +kernel
theorem dX0_widthOf_3 : decode cX0_widthOf 3 = .ok (.bipush 64, 2) := by decide +kernel
theorem dX0_widthOf_5 : decode cX0_widthOf 5 = .ok (.if_icmp .ge 17, 3) := by decide +kernel
theorem dX0_widthOf_8 : decode cX0_widthOf 8 = .ok (.lload_n 0, 1) := by decide +kernel
theorem dX0_widthOf_9 : decode cX0_widthOf 9 = .ok (.iload_n 2, 1) := by decide +kernel
theorem dX0_widthOf_10 : decode cX0_widthOf 10 = .ok (.lushr, 1) := by decide +kernel
theorem dX0_widthOf_11 : decode cX0_widthOf 11 = .ok (.lconst 0, 1) := by decide +kernel
theorem dX0_widthOf_12 : decode cX0_widthOf 12 = .ok (.lcmp, 1) := by decide +kernel
theorem dX0_widthOf_13 : decode cX0_widthOf 13 = .ok (.ifCond .eq 9, 3) := by decide +kernel
theorem dX0_widthOf_16 : decode cX0_widthOf 16 = .ok (.iinc 2 1, 3) := by decide +kernel
theorem dX0_widthOf_19 : decode cX0_widthOf 19 = .ok (.goto (-17), 3) := by decide +kernel
theorem dX0_widthOf_22 : decode cX0_widthOf 22 = .ok (.iload_n 2, 1) := by decide +kernel
theorem dX0_widthOf_23 : decode cX0_widthOf 23 = .ok (.ireturn, 1) := by decide +kernel
end
section
/-! The base of this proof: one list of words for every method, one way into a method, rows over Nat, calls, loops, arrays. -/
section CHB0
/-- the words that every method is given: all good words of the tables -/
def tG : List Cond := lw_tbl.filter goodWord
theorem tG_good : ∀ w ∈ tG, goodWord w = true := fun _ h => (List.mem_filter.mp h).2
theorem tG_in {w : Cond} (h : w ∈ lw_tbl) (hg : goodWord w = true) : w ∈ tG := List.mem_filter.mpr ⟨h, hg⟩
abbrev wA (y : MethodName) (b : ByteArray) (n : Nat) (r : Option FieldType) : List Cond := .code y b n r :: tG
theorem gA {y : MethodName} {b : ByteArray} {n : Nat} {r : Option FieldType} (hc : Cond.code y b n r ∈ tG) : GoodIn tG (wA y b n r) := by
  intro w hw
  rcases List.mem_cons.mp hw with rfl | h
  · exact ⟨hc, good_of_word (tG_good _ hc)⟩
  · exact ⟨h, good_of_word (tG_good _ h)⟩
/-- the room of a method that calls d deep and makes nothing -/
abbrev rN (d : Nat) : Room := { frames := d, cells := 0, slots := 0, locals := 40 * d }
/-- a truth value on the stack -/
def bI (b : Bool) : Int32 := if b then 1 else 0
theorem bI_t : bI true = 1 := rfl
theorem bI_f : bI false = 0 := rfl
theorem bI_nar (b : Bool) : narrow .boolean (.int (bI b)) = .int (bI b) := by cases b <;> rfl
/-- arrays of small numbers; a number set -/
def aN (f : Nat → Nat) : Nat → Int32 := fun j => nI (f j)
def fS {α : Type} (f : Nat → α) (i : Nat) (x : α) : Nat → α := fun j => if j = i then x else f j
theorem fS_s {α : Type} {f : Nat → α} {i : Nat} {x : α} : fS f i x i = x := by simp [fS]
theorem fS_n {α : Type} {f : Nat → α} {i j : Nat} {x : α} (h : j ≠ i) : fS f i x j = f j := by simp [fS, h]
theorem aN_set (f : Nat → Nat) (i x : Nat) : upd (aN f) i (nI x) = aN (fS f i x) := by
  funext j
  by_cases h : j = i
  · subst h; simp [upd, aN, fS]
  · simp [upd, aN, fS, h]
theorem aL_set (f : Nat → Int64) (i : Nat) (x : Int64) : vp_updL f i x = fS f i x := rfl
/-- the table of cells, by row and column; as the hall keeps it (column behind column) and as the reference does (row behind row) -/
def tS (T : Nat → Nat → Int64) (r c : Nat) (v : Int64) : Nat → Nat → Int64 := fun i j => if i = r ∧ j = c then v else T i j
def aT (T : Nat → Nat → Int64) : Nat → Int64 := fun i => T (i % 128) (i / 128)
def aR (T : Nat → Nat → Int64) : Nat → Int64 := fun i => T (i / 4) (i % 4)
theorem aT_at (T : Nat → Nat → Int64) {r c i : Nat} (hi : i = c * 128 + r) (hr : r < 128) : aT T i = T r c := by
  subst hi
  have h1 : (c * 128 + r) % 128 = r := by omega
  have h2 : (c * 128 + r) / 128 = c := by omega
  show T _ _ = _
  rw [h1, h2]
theorem aR_at (T : Nat → Nat → Int64) {r c i : Nat} (hi : i = 4 * r + c) (hc : c < 4) : aR T i = T r c := by
  subst hi
  have h1 : (4 * r + c) % 4 = c := by omega
  have h2 : (4 * r + c) / 4 = r := by omega
  show T _ _ = _
  rw [h1, h2]
theorem aT_set (T : Nat → Nat → Int64) {r c i : Nat} (v : Int64) (hi : i = c * 128 + r) (hr : r < 128) : vp_updL (aT T) i v = aT (tS T r c v) := by
  subst hi
  funext j
  by_cases h : j = c * 128 + r
  · subst h
    have h1 : (c * 128 + r) % 128 = r := by omega
    have h2 : (c * 128 + r) / 128 = c := by omega
    simp [vp_updL, aT, tS, h1, h2]
  · have h1 : ¬ (j % 128 = r ∧ j / 128 = c) := by omega
    simp [vp_updL, aT, tS, h, h1]
theorem aR_set (T : Nat → Nat → Int64) {r c i : Nat} (v : Int64) (hi : i = 4 * r + c) (hc : c < 4) : vp_updL (aR T) i v = aR (tS T r c v) := by
  subst hi
  funext j
  by_cases h : j = 4 * r + c
  · subst h
    have h1 : (4 * r + c) % 4 = c := by omega
    have h2 : (4 * r + c) / 4 = r := by omega
    simp [vp_updL, aR, tS, h1, h2]
  · have h1 : ¬ (j / 4 = r ∧ j % 4 = c) := by omega
    simp [vp_updL, aR, tS, h, h1]
/-- a world whose cells lie at ad 0, ad 1 .. : what may change, and that they are apart -/
def fA (ad : Nat → Nat) (N : Nat) : Nat → Prop := fun q => ∃ i, i < N ∧ q = ad i
def inj (ad : Nat → Nat) (N : Nat) : Prop := ∀ i j, i < N → j < N → ad i = ad j → i = j
theorem dW_at {ad : Nat → Nat} {N : Nat} {ws : va_W} (h : ws.map Prod.fst = (List.range N).map ad) {i : Nat} {p : Nat × va_E} (hp : ws[i]? = some p) : i < N ∧ p.1 = ad i := by
  have h1 : (ws.map Prod.fst)[i]? = some p.1 := by rw [List.getElem?_map, hp]; rfl
  rw [h, List.getElem?_map] at h1
  by_cases hi : i < N
  · rw [List.getElem?_range hi] at h1
    exact ⟨hi, (Option.some.inj h1).symm⟩
  · rw [List.getElem?_eq_none (by simp; omega)] at h1
    cases h1
theorem dW {ad : Nat → Nat} {N : Nat} {ws : va_W} (hN : inj ad N) (h : ws.map Prod.fst = (List.range N).map ad) : va_D (fA ad N) ws := by
  refine ⟨fun i j p q hp hq e => ?_, fun k q hq => ?_⟩
  · obtain ⟨h1, h2⟩ := dW_at h hp
    obtain ⟨h3, h4⟩ := dW_at h hq
    exact hN i j h1 h3 (by rw [← h2, ← h4]; exact e)
  · obtain ⟨h1, h2⟩ := dW_at h hq
    exact ⟨k, h1, h2⟩
/-- numbers -/
theorem inc1 (a : Nat) : nI a + Int32.ofInt 1 = nI (a + 1) := nI_1 a
theorem p31 {a : Nat} (h : a ≤ 1000000) : a < 2 ^ 31 := by omega
end CHB0
section CHB1
/-- into a method -/
theorem met_of {l : Launch} {y : MethodName} {cc : ByteArray} {maxL : Nat} {ret : Option FieldType} {rm : Room} {As : List Value} {B : State → Prop} {Qc : Array Value → State → Outcome → State → Prop} {mc ms : Nat} {free : Addr → Prop} (own : String) (ho : y.cls = own) (hy : plainName y.cls = true) (hn : (lg_sl As).length ≤ maxL)
    (body : ∀ (p : Program) (e : Env) (s : State) (m : MethodId) (below : List Frame) (meth : Method) (c : Code) (ls : Array Slot), CallFix p m c cc maxL s As.toArray tG own → meth.sig.returnType = ret → meth.locks = false → meth.name = y.name → B s → lv_has ls maxL (lv_args 0 As) → W p l e rm s m As.toArray below meth c s.heap [] 0 0 (MQ below Qc As.toArray s mc ms free) (F0 m 0 ls [])) : Met l y (wA y cc maxL ret) rm (va_Pc As B) Qc mc ms free := by
  subst ho
  refine Met.ofW (cc := cc) (maxL := maxL) (ret := ret) hy rfl ?_
  intro p e s m args below meth c s₁ Bd hml hv
  obtain ⟨rfl, hB⟩ := hv
  have hts := atoms_spec (ws := wA y cc maxL ret) Bd.pre
  rw [lg_entry_eq]
  exact body p e s m below meth c _ ⟨Bd.exec, Bd.bytes, hml, findClass_of_methodNamed Bd.named, fun w h => hts w (List.mem_cons_of_mem _ h)⟩ Bd.returns Bd.notSynchronized (name_of_methodNamed Bd.named Bd.method).1 hB (lv_entry As hn)
end CHB1
section CHB2
variable {p : Program} {l : Launch} {e : Env} {R : Room} {s : State} {m : MethodId} {args : Array Value} {below : List Frame} {meth : Method} {c : Code} {H : Heap} {locs : List Loc} {cells slots : Nat} {Q : State → Prop}
variable {cc : ByteArray} {pc : Nat} {ls : Array Slot} {rest : List Value} {nL : Nat} {own : String}
theorem tpi {x y : Int32} (h : x = y) (k : W p l e R s m args below meth c H locs cells slots Q (F0 m pc ls (.int y :: rest))) : W p l e R s m args below meth c H locs cells slots Q (F0 m pc ls (.int x :: rest)) := h ▸ k
theorem tpl {x y : Int64} (h : x = y) (k : W p l e R s m args below meth c H locs cells slots Q (F0 m pc ls (.long y :: rest))) : W p l e R s m args below meth c H locs cells slots Q (F0 m pc ls (.long x :: rest)) := h ▸ k
theorem n_iadd (E : CallFix p m c cc nL s args tG own) {a b : Nat} (hdg : decode cc pc = .ok (.iadd, 1)) (k : W p l e R s m args below meth c H locs cells slots Q (F0 m (pc + 1) ls (.int (nI (a + b)) :: rest))) : W p l e R s m args below meth c H locs cells slots Q (F0 m pc ls (.int (nI b) :: .int (nI a) :: rest)) := lv_iadd E.1 E.2.1 hdg (tpi (nI_add a b) k)
theorem n_isub (E : CallFix p m c cc nL s args tG own) {a b : Nat} (h : b ≤ a) (hdg : decode cc pc = .ok (.isub, 1)) (k : W p l e R s m args below meth c H locs cells slots Q (F0 m (pc + 1) ls (.int (nI (a - b)) :: rest))) : W p l e R s m args below meth c H locs cells slots Q (F0 m pc ls (.int (nI b) :: .int (nI a) :: rest)) := lv_isub E.1 E.2.1 hdg (tpi (pk_sub h) k)
theorem n_imul (E : CallFix p m c cc nL s args tG own) {a b : Nat} (hdg : decode cc pc = .ok (.imul, 1)) (k : W p l e R s m args below meth c H locs cells slots Q (F0 m (pc + 1) ls (.int (nI (a * b)) :: rest))) : W p l e R s m args below meth c H locs cells slots Q (F0 m pc ls (.int (nI b) :: .int (nI a) :: rest)) := lv_imul E.1 E.2.1 hdg (tpi (pk_mul a b) k)
theorem n_icmp_lt (E : CallFix p m c cc nL s args tG own) {a b : Nat} {off : Int} {tgt : Nat} (hdg : decode cc pc = .ok (.if_icmp .lt off, 3)) (ht : (pc : Int) + off = (tgt : Int)) (ha : a < 2 ^ 31) (hb : b < 2 ^ 31)
    (kt : a < b → W p l e R s m args below meth c H locs cells slots Q (F0 m tgt ls rest)) (kf : b ≤ a → W p l e R s m args below meth c H locs cells slots Q (F0 m (pc + 3) ls rest)) : W p l e R s m args below meth c H locs cells slots Q (F0 m pc ls (.int (nI b) :: .int (nI a) :: rest)) :=
  lv_icmp_lt E.1 E.2.1 hdg ht (fun h => kt ((nI_ltI ha hb).mp h)) (fun h => kf (Nat.not_lt.mp fun q => h ((nI_ltI ha hb).mpr q)))
theorem n_icmp_ge (E : CallFix p m c cc nL s args tG own) {a b : Nat} {off : Int} {tgt : Nat} (hdg : decode cc pc = .ok (.if_icmp .ge off, 3)) (ht : (pc : Int) + off = (tgt : Int)) (ha : a < 2 ^ 31) (hb : b < 2 ^ 31)
    (kt : b ≤ a → W p l e R s m args below meth c H locs cells slots Q (F0 m tgt ls rest)) (kf : a < b → W p l e R s m args below meth c H locs cells slots Q (F0 m (pc + 3) ls rest)) : W p l e R s m args below meth c H locs cells slots Q (F0 m pc ls (.int (nI b) :: .int (nI a) :: rest)) :=
  lv_icmp_ge E.1 E.2.1 hdg ht (fun h => kt ((nI_leI hb ha).mp h)) (fun h => kf (Nat.not_le.mp fun q => h ((nI_leI hb ha).mpr q)))
theorem n_icmp_gt (E : CallFix p m c cc nL s args tG own) {a b : Nat} {off : Int} {tgt : Nat} (hdg : decode cc pc = .ok (.if_icmp .gt off, 3)) (ht : (pc : Int) + off = (tgt : Int)) (ha : a < 2 ^ 31) (hb : b < 2 ^ 31)
    (kt : b < a → W p l e R s m args below meth c H locs cells slots Q (F0 m tgt ls rest)) (kf : a ≤ b → W p l e R s m args below meth c H locs cells slots Q (F0 m (pc + 3) ls rest)) : W p l e R s m args below meth c H locs cells slots Q (F0 m pc ls (.int (nI b) :: .int (nI a) :: rest)) :=
  lv_icmp_gt E.1 E.2.1 hdg ht (fun h => kt ((nI_ltI hb ha).mp h)) (fun h => kf (Nat.not_lt.mp fun q => h ((nI_ltI hb ha).mpr q)))
theorem n_icmp_le (E : CallFix p m c cc nL s args tG own) {a b : Nat} {off : Int} {tgt : Nat} (hdg : decode cc pc = .ok (.if_icmp .le off, 3)) (ht : (pc : Int) + off = (tgt : Int)) (ha : a < 2 ^ 31) (hb : b < 2 ^ 31)
    (kt : a ≤ b → W p l e R s m args below meth c H locs cells slots Q (F0 m tgt ls rest)) (kf : b < a → W p l e R s m args below meth c H locs cells slots Q (F0 m (pc + 3) ls rest)) : W p l e R s m args below meth c H locs cells slots Q (F0 m pc ls (.int (nI b) :: .int (nI a) :: rest)) :=
  lv_icmp_le E.1 E.2.1 hdg ht (fun h => kt ((nI_leI ha hb).mp h)) (fun h => kf (Nat.not_le.mp fun q => h ((nI_leI ha hb).mpr q)))
theorem n_icmp_eq (E : CallFix p m c cc nL s args tG own) {a b : Nat} {off : Int} {tgt : Nat} (hdg : decode cc pc = .ok (.if_icmp .eq off, 3)) (ht : (pc : Int) + off = (tgt : Int)) (ha : a < 2 ^ 31) (hb : b < 2 ^ 31)
    (kt : a = b → W p l e R s m args below meth c H locs cells slots Q (F0 m tgt ls rest)) (kf : ¬ a = b → W p l e R s m args below meth c H locs cells slots Q (F0 m (pc + 3) ls rest)) : W p l e R s m args below meth c H locs cells slots Q (F0 m pc ls (.int (nI b) :: .int (nI a) :: rest)) :=
  lv_icmp_eq E.1 E.2.1 hdg ht (fun h => kt ((nI_eq ha hb).mp h)) (fun h => kf (fun q => h ((nI_eq ha hb).mpr q)))
theorem n_icmp_ne (E : CallFix p m c cc nL s args tG own) {a b : Nat} {off : Int} {tgt : Nat} (hdg : decode cc pc = .ok (.if_icmp .ne off, 3)) (ht : (pc : Int) + off = (tgt : Int)) (ha : a < 2 ^ 31) (hb : b < 2 ^ 31)
    (kt : ¬ a = b → W p l e R s m args below meth c H locs cells slots Q (F0 m tgt ls rest)) (kf : a = b → W p l e R s m args below meth c H locs cells slots Q (F0 m (pc + 3) ls rest)) : W p l e R s m args below meth c H locs cells slots Q (F0 m pc ls (.int (nI b) :: .int (nI a) :: rest)) :=
  lv_icmp_ne E.1 E.2.1 hdg ht (fun h => kt (fun q => h ((nI_eq ha hb).mpr q))) (fun h => kf ((nI_eq ha hb).mp h))
/-- branches on a number -/
theorem n_if_eq (E : CallFix p m c cc nL s args tG own) {a : Nat} {off : Int} {tgt : Nat} (hdg : decode cc pc = .ok (.ifCond .eq off, 3)) (ht : (pc : Int) + off = (tgt : Int)) (ha : a < 2 ^ 31)
    (kt : a = 0 → W p l e R s m args below meth c H locs cells slots Q (F0 m tgt ls rest)) (kf : ¬ a = 0 → W p l e R s m args below meth c H locs cells slots Q (F0 m (pc + 3) ls rest)) : W p l e R s m args below meth c H locs cells slots Q (F0 m pc ls (.int (nI a) :: rest)) :=
  lv_if_eq E.1 E.2.1 hdg ht (fun h => kt ((nI_eq ha (p31 (by omega : 0 ≤ 1000000))).mp (h.trans nI_0.symm))) (fun h => kf (fun q => h (by rw [q]; exact nI_0)))
theorem n_if_ne (E : CallFix p m c cc nL s args tG own) {a : Nat} {off : Int} {tgt : Nat} (hdg : decode cc pc = .ok (.ifCond .ne off, 3)) (ht : (pc : Int) + off = (tgt : Int)) (ha : a < 2 ^ 31)
    (kt : ¬ a = 0 → W p l e R s m args below meth c H locs cells slots Q (F0 m tgt ls rest)) (kf : a = 0 → W p l e R s m args below meth c H locs cells slots Q (F0 m (pc + 3) ls rest)) : W p l e R s m args below meth c H locs cells slots Q (F0 m pc ls (.int (nI a) :: rest)) :=
  lv_if_ne E.1 E.2.1 hdg ht (fun h => kt (fun q => h (by rw [q]; exact nI_0))) (fun h => kf ((nI_eq ha (p31 (by omega : 0 ≤ 1000000))).mp (h.trans nI_0.symm)))
theorem n_if_le (E : CallFix p m c cc nL s args tG own) {a : Nat} {off : Int} {tgt : Nat} (hdg : decode cc pc = .ok (.ifCond .le off, 3)) (ht : (pc : Int) + off = (tgt : Int)) (ha : a < 2 ^ 31)
    (kt : a = 0 → W p l e R s m args below meth c H locs cells slots Q (F0 m tgt ls rest)) (kf : 0 < a → W p l e R s m args below meth c H locs cells slots Q (F0 m (pc + 3) ls rest)) : W p l e R s m args below meth c H locs cells slots Q (F0 m pc ls (.int (nI a) :: rest)) :=
  lv_if_le E.1 E.2.1 hdg ht (fun h => kt (Nat.eq_zero_of_not_pos fun q => nI_nle q ha h)) (fun h => kf (Nat.pos_of_ne_zero fun q => h (by rw [q, nI_0]; decide)))
theorem n_if_ge (E : CallFix p m c cc nL s args tG own) {a : Nat} {off : Int} {tgt : Nat} (hdg : decode cc pc = .ok (.ifCond .ge off, 3)) (ht : (pc : Int) + off = (tgt : Int)) (ha : a < 2 ^ 31)
    (kt : W p l e R s m args below meth c H locs cells slots Q (F0 m tgt ls rest)) : W p l e R s m args below meth c H locs cells slots Q (F0 m pc ls (.int (nI a) :: rest)) :=
  lv_if_ge E.1 E.2.1 hdg ht (fun _ => kt) (fun h => absurd (nI_pos' ha) h)
theorem n_if_lt (E : CallFix p m c cc nL s args tG own) {a : Nat} {off : Int} {tgt : Nat} (hdg : decode cc pc = .ok (.ifCond .lt off, 3)) (ht : (pc : Int) + off = (tgt : Int)) (ha : a < 2 ^ 31)
    (kf : W p l e R s m args below meth c H locs cells slots Q (F0 m (pc + 3) ls rest)) : W p l e R s m args below meth c H locs cells slots Q (F0 m pc ls (.int (nI a) :: rest)) :=
  lv_if_lt E.1 E.2.1 hdg ht (fun h => absurd h (nI_pos ha)) (fun _ => kf)
/-- branches on a truth value -/
theorem b_if_eq (E : CallFix p m c cc nL s args tG own) {b : Bool} {off : Int} {tgt : Nat} (hdg : decode cc pc = .ok (.ifCond .eq off, 3)) (ht : (pc : Int) + off = (tgt : Int))
    (kt : b = false → W p l e R s m args below meth c H locs cells slots Q (F0 m tgt ls rest)) (kf : b = true → W p l e R s m args below meth c H locs cells slots Q (F0 m (pc + 3) ls rest)) : W p l e R s m args below meth c H locs cells slots Q (F0 m pc ls (.int (bI b) :: rest)) :=
  lv_if_eq E.1 E.2.1 hdg ht (fun h => kt (by cases b; rfl; exact absurd h (by decide))) (fun h => kf (by cases b; exact absurd rfl h; rfl))
theorem b_if_ne (E : CallFix p m c cc nL s args tG own) {b : Bool} {off : Int} {tgt : Nat} (hdg : decode cc pc = .ok (.ifCond .ne off, 3)) (ht : (pc : Int) + off = (tgt : Int))
    (kt : b = true → W p l e R s m args below meth c H locs cells slots Q (F0 m tgt ls rest)) (kf : b = false → W p l e R s m args below meth c H locs cells slots Q (F0 m (pc + 3) ls rest)) : W p l e R s m args below meth c H locs cells slots Q (F0 m pc ls (.int (bI b) :: rest)) :=
  lv_if_ne E.1 E.2.1 hdg ht (fun h => kt (by cases b; exact absurd rfl h; rfl)) (fun h => kf (by cases b; rfl; exact absurd h (by decide)))
/-- branches on two longs: the compare and the jump behind it -/
theorem l_if_lt (E : CallFix p m c cc nL s args tG own) {x y : Int64} {off : Int} {tgt : Nat} (hd1 : decode cc pc = .ok (.lcmp, 1)) (hd2 : decode cc (pc + 1) = .ok (.ifCond .lt off, 3)) (ht : ((pc + 1 : Nat) : Int) + off = (tgt : Int))
    (kt : x < y → W p l e R s m args below meth c H locs cells slots Q (F0 m tgt ls rest)) (kf : ¬ x < y → W p l e R s m args below meth c H locs cells slots Q (F0 m (pc + 1 + 3) ls rest)) : W p l e R s m args below meth c H locs cells slots Q (F0 m pc ls (.long y :: .long x :: rest)) :=
  W.lcmp E.1 E.2.1 hd1 (lv_if_lt E.1 E.2.1 hd2 ht (fun h => kt ((lg_cmp_lt x y).mp h)) (fun h => kf fun q => h ((lg_cmp_lt x y).mpr q)))
theorem l_if_ge (E : CallFix p m c cc nL s args tG own) {x y : Int64} {off : Int} {tgt : Nat} (hd1 : decode cc pc = .ok (.lcmp, 1)) (hd2 : decode cc (pc + 1) = .ok (.ifCond .ge off, 3)) (ht : ((pc + 1 : Nat) : Int) + off = (tgt : Int))
    (kt : ¬ x < y → W p l e R s m args below meth c H locs cells slots Q (F0 m tgt ls rest)) (kf : x < y → W p l e R s m args below meth c H locs cells slots Q (F0 m (pc + 1 + 3) ls rest)) : W p l e R s m args below meth c H locs cells slots Q (F0 m pc ls (.long y :: .long x :: rest)) :=
  W.lcmp E.1 E.2.1 hd1 (lv_if_ge E.1 E.2.1 hd2 ht (fun h => kt (Int64.not_lt.mpr ((lg_cmp_ge x y).mp h))) (fun h => kf (Classical.byContradiction fun q => h ((lg_cmp_ge x y).mpr (Int64.not_lt.mp q)))))
theorem l_if_gt (E : CallFix p m c cc nL s args tG own) {x y : Int64} {off : Int} {tgt : Nat} (hd1 : decode cc pc = .ok (.lcmp, 1)) (hd2 : decode cc (pc + 1) = .ok (.ifCond .gt off, 3)) (ht : ((pc + 1 : Nat) : Int) + off = (tgt : Int))
    (kt : y < x → W p l e R s m args below meth c H locs cells slots Q (F0 m tgt ls rest)) (kf : ¬ y < x → W p l e R s m args below meth c H locs cells slots Q (F0 m (pc + 1 + 3) ls rest)) : W p l e R s m args below meth c H locs cells slots Q (F0 m pc ls (.long y :: .long x :: rest)) :=
  W.lcmp E.1 E.2.1 hd1 (lv_if_gt E.1 E.2.1 hd2 ht (fun h => kt ((lg_cmp_gt x y).mp h)) (fun h => kf fun q => h ((lg_cmp_gt x y).mpr q)))
theorem l_if_le (E : CallFix p m c cc nL s args tG own) {x y : Int64} {off : Int} {tgt : Nat} (hd1 : decode cc pc = .ok (.lcmp, 1)) (hd2 : decode cc (pc + 1) = .ok (.ifCond .le off, 3)) (ht : ((pc + 1 : Nat) : Int) + off = (tgt : Int))
    (kt : ¬ y < x → W p l e R s m args below meth c H locs cells slots Q (F0 m tgt ls rest)) (kf : y < x → W p l e R s m args below meth c H locs cells slots Q (F0 m (pc + 1 + 3) ls rest)) : W p l e R s m args below meth c H locs cells slots Q (F0 m pc ls (.long y :: .long x :: rest)) :=
  W.lcmp E.1 E.2.1 hd1 (lv_if_le E.1 E.2.1 hd2 ht (fun h => kt (Int64.not_lt.mpr ((lg_cmp_le x y).mp h))) (fun h => kf (Classical.byContradiction fun q => h ((lg_cmp_le x y).mpr (Int64.not_lt.mp q)))))
theorem l_if_eq (E : CallFix p m c cc nL s args tG own) {x y : Int64} {off : Int} {tgt : Nat} (hd1 : decode cc pc = .ok (.lcmp, 1)) (hd2 : decode cc (pc + 1) = .ok (.ifCond .eq off, 3)) (ht : ((pc + 1 : Nat) : Int) + off = (tgt : Int))
    (kt : x = y → W p l e R s m args below meth c H locs cells slots Q (F0 m tgt ls rest)) (kf : ¬ x = y → W p l e R s m args below meth c H locs cells slots Q (F0 m (pc + 1 + 3) ls rest)) : W p l e R s m args below meth c H locs cells slots Q (F0 m pc ls (.long y :: .long x :: rest)) :=
  W.lcmp E.1 E.2.1 hd1 (lv_if_eq E.1 E.2.1 hd2 ht (fun h => kt ((lg_cmp_eq x y).mp h)) (fun h => kf fun q => h ((lg_cmp_eq x y).mpr q)))
theorem l_if_ne (E : CallFix p m c cc nL s args tG own) {x y : Int64} {off : Int} {tgt : Nat} (hd1 : decode cc pc = .ok (.lcmp, 1)) (hd2 : decode cc (pc + 1) = .ok (.ifCond .ne off, 3)) (ht : ((pc + 1 : Nat) : Int) + off = (tgt : Int))
    (kt : ¬ x = y → W p l e R s m args below meth c H locs cells slots Q (F0 m tgt ls rest)) (kf : x = y → W p l e R s m args below meth c H locs cells slots Q (F0 m (pc + 1 + 3) ls rest)) : W p l e R s m args below meth c H locs cells slots Q (F0 m pc ls (.long y :: .long x :: rest)) :=
  W.lcmp E.1 E.2.1 hd1 (lv_if_ne E.1 E.2.1 hd2 ht (fun h => kt fun q => h ((lg_cmp_eq x y).mpr q)) (fun h => kf ((lg_cmp_eq x y).mp h)))
/-- loops: the heap stays (one, two, three things that change) -/
theorem w_lp1 {A1 : Type} (I : A1 → Prop) (μ : A1 → Nat) (lv : A1 → List (Nat × Value)) (a1 : A1) (h0 : I a1) (hl : lv_has ls nL (lv a1))
    (step : ∀ (a1 : A1) (ls : Array Slot), I a1 → lv_has ls nL (lv a1) → (∀ (b1 : A1) (ls' : Array Slot), I b1 → μ b1 < μ a1 → lv_has ls' nL (lv b1) → W p l e R s m args below meth c H locs cells slots Q (F0 m pc ls' rest)) → W p l e R s m args below meth c H locs cells slots Q (F0 m pc ls rest)) : W p l e R s m args below meth c H locs cells slots Q (F0 m pc ls rest) := by
  have key : ∀ (n : Nat) (a1 : A1) (ls : Array Slot), μ a1 < n → I a1 → lv_has ls nL (lv a1) → W p l e R s m args below meth c H locs cells slots Q (F0 m pc ls rest) := by
    intro n
    induction n with
    | zero => intro a1 ls h; omega
    | succ n ih => intro a1 ls h hI hl; exact step a1 ls hI hl (fun b1 ls' hb hm hl' => ih b1 ls' (by omega) hb hl')
  exact key _ a1 ls (Nat.lt_succ_self _) h0 hl
theorem w_lp2 {A1 A2 : Type} (I : A1 → A2 → Prop) (μ : A1 → A2 → Nat) (lv : A1 → A2 → List (Nat × Value)) (a1 : A1) (a2 : A2) (h0 : I a1 a2) (hl : lv_has ls nL (lv a1 a2))
    (step : ∀ (a1 : A1) (a2 : A2) (ls : Array Slot), I a1 a2 → lv_has ls nL (lv a1 a2) → (∀ (b1 : A1) (b2 : A2) (ls' : Array Slot), I b1 b2 → μ b1 b2 < μ a1 a2 → lv_has ls' nL (lv b1 b2) → W p l e R s m args below meth c H locs cells slots Q (F0 m pc ls' rest)) → W p l e R s m args below meth c H locs cells slots Q (F0 m pc ls rest)) : W p l e R s m args below meth c H locs cells slots Q (F0 m pc ls rest) :=
  w_lp1 (A1 := A1 × A2) (fun x => I x.1 x.2) (fun x => μ x.1 x.2) (fun x => lv x.1 x.2) (a1, a2) h0 hl (fun x ls hI hl ih => step x.1 x.2 ls hI hl (fun b1 b2 ls' hb hm hl' => ih (b1, b2) ls' hb hm hl'))
theorem w_lp3 {A1 A2 A3 : Type} (I : A1 → A2 → A3 → Prop) (μ : A1 → A2 → A3 → Nat) (lv : A1 → A2 → A3 → List (Nat × Value)) (a1 : A1) (a2 : A2) (a3 : A3) (h0 : I a1 a2 a3) (hl : lv_has ls nL (lv a1 a2 a3))
    (step : ∀ (a1 : A1) (a2 : A2) (a3 : A3) (ls : Array Slot), I a1 a2 a3 → lv_has ls nL (lv a1 a2 a3) → (∀ (b1 : A1) (b2 : A2) (b3 : A3) (ls' : Array Slot), I b1 b2 b3 → μ b1 b2 b3 < μ a1 a2 a3 → lv_has ls' nL (lv b1 b2 b3) → W p l e R s m args below meth c H locs cells slots Q (F0 m pc ls' rest)) → W p l e R s m args below meth c H locs cells slots Q (F0 m pc ls rest)) : W p l e R s m args below meth c H locs cells slots Q (F0 m pc ls rest) :=
  w_lp1 (A1 := A1 × A2 × A3) (fun x => I x.1 x.2.1 x.2.2) (fun x => μ x.1 x.2.1 x.2.2) (fun x => lv x.1 x.2.1 x.2.2) (a1, a2, a3) h0 hl (fun x ls hI hl ih => step x.1 x.2.1 x.2.2 ls hI hl (fun b1 b2 b3 ls' hb hm hl' => ih (b1, b2, b3) ls' hb hm hl'))
/-- loops that write -/
theorem w_lq1 {A1 : Type} (I : A1 → Prop) (μ : A1 → Nat) (lv : A1 → List (Nat × Value)) (B : A1 → Heap → List Loc → Prop) (a1 : A1) (h0 : I a1) (hB : B a1 H locs) (hl : lv_has ls nL (lv a1))
    (step : ∀ (a1 : A1) (ls : Array Slot) (H : Heap) (locs : List Loc), I a1 → B a1 H locs → lv_has ls nL (lv a1) → (∀ (b1 : A1) (ls' : Array Slot) (H' : Heap) (locs' : List Loc), I b1 → μ b1 < μ a1 → B b1 H' locs' → lv_has ls' nL (lv b1) → W p l e R s m args below meth c H' locs' cells slots Q (F0 m pc ls' rest)) → W p l e R s m args below meth c H locs cells slots Q (F0 m pc ls rest)) : W p l e R s m args below meth c H locs cells slots Q (F0 m pc ls rest) := by
  have key : ∀ (n : Nat) (a1 : A1) (ls : Array Slot) (H : Heap) (locs : List Loc), μ a1 < n → I a1 → B a1 H locs → lv_has ls nL (lv a1) → W p l e R s m args below meth c H locs cells slots Q (F0 m pc ls rest) := by
    intro n
    induction n with
    | zero => intro a1 ls H locs h; omega
    | succ n ih => intro a1 ls H locs h hI hB hl; exact step a1 ls H locs hI hB hl (fun b1 ls' H' locs' hb hm hB' hl' => ih b1 ls' H' locs' (by omega) hb hB' hl')
  exact key _ a1 ls H locs (Nat.lt_succ_self _) h0 hB hl
theorem w_lq2 {A1 A2 : Type} (I : A1 → A2 → Prop) (μ : A1 → A2 → Nat) (lv : A1 → A2 → List (Nat × Value)) (B : A1 → A2 → Heap → List Loc → Prop) (a1 : A1) (a2 : A2) (h0 : I a1 a2) (hB : B a1 a2 H locs) (hl : lv_has ls nL (lv a1 a2))
    (step : ∀ (a1 : A1) (a2 : A2) (ls : Array Slot) (H : Heap) (locs : List Loc), I a1 a2 → B a1 a2 H locs → lv_has ls nL (lv a1 a2) → (∀ (b1 : A1) (b2 : A2) (ls' : Array Slot) (H' : Heap) (locs' : List Loc), I b1 b2 → μ b1 b2 < μ a1 a2 → B b1 b2 H' locs' → lv_has ls' nL (lv b1 b2) → W p l e R s m args below meth c H' locs' cells slots Q (F0 m pc ls' rest)) → W p l e R s m args below meth c H locs cells slots Q (F0 m pc ls rest)) : W p l e R s m args below meth c H locs cells slots Q (F0 m pc ls rest) :=
  w_lq1 (A1 := A1 × A2) (fun x => I x.1 x.2) (fun x => μ x.1 x.2) (fun x => lv x.1 x.2) (fun x => B x.1 x.2) (a1, a2) h0 hB hl (fun x ls H locs hI hB hl ih => step x.1 x.2 ls H locs hI hB hl (fun b1 b2 ls' H' locs' hb hm hB' hl' => ih (b1, b2) ls' H' locs' hb hm hB' hl'))
theorem w_lq3 {A1 A2 A3 : Type} (I : A1 → A2 → A3 → Prop) (μ : A1 → A2 → A3 → Nat) (lv : A1 → A2 → A3 → List (Nat × Value)) (B : A1 → A2 → A3 → Heap → List Loc → Prop) (a1 : A1) (a2 : A2) (a3 : A3) (h0 : I a1 a2 a3) (hB : B a1 a2 a3 H locs) (hl : lv_has ls nL (lv a1 a2 a3))
    (step : ∀ (a1 : A1) (a2 : A2) (a3 : A3) (ls : Array Slot) (H : Heap) (locs : List Loc), I a1 a2 a3 → B a1 a2 a3 H locs → lv_has ls nL (lv a1 a2 a3) → (∀ (b1 : A1) (b2 : A2) (b3 : A3) (ls' : Array Slot) (H' : Heap) (locs' : List Loc), I b1 b2 b3 → μ b1 b2 b3 < μ a1 a2 a3 → B b1 b2 b3 H' locs' → lv_has ls' nL (lv b1 b2 b3) → W p l e R s m args below meth c H' locs' cells slots Q (F0 m pc ls' rest)) → W p l e R s m args below meth c H locs cells slots Q (F0 m pc ls rest)) : W p l e R s m args below meth c H locs cells slots Q (F0 m pc ls rest) :=
  w_lq1 (A1 := A1 × A2 × A3) (fun x => I x.1 x.2.1 x.2.2) (fun x => μ x.1 x.2.1 x.2.2) (fun x => lv x.1 x.2.1 x.2.2) (fun x => B x.1 x.2.1 x.2.2) (a1, a2, a3) h0 hB hl (fun x ls H locs hI hB hl ih => step x.1 x.2.1 x.2.2 ls H locs hI hB hl (fun b1 b2 b3 ls' H' locs' hb hm hB' hl' => ih (b1, b2, b3) ls' H' locs' hb hm hB' hl'))
end CHB2
section CHB3
variable {p : Program} {l : Launch} {e : Env} {R : Room} {s : State} {m : MethodId} {args : Array Value} {below : List Frame} {meth : Method} {c : Code} {H : Heap} {locs : List Loc} {cells slots : Nat} {Q : State → Prop}
variable {cc : ByteArray} {pc : Nat} {ls : Array Slot} {rest : List Value} {nL : Nat} {own : String}
variable {D : va_G} {cl : List vw_C} {A : Nat → Prop} {a : Nat} {tys : List (ClassId × FieldType)} {ws : va_W} {H0 : Heap}
/-- fields -/
theorem n_get (E : CallFix p m c cc nL s args tG own) {C : String} {T : u_T} {N ci index : Nat} (hin : ∀ w ∈ u_ws C T N, w ∈ tG) (hK : va_K D cl tys s) (hP : va_P D cl ws H) (q0 : Nat) {fs : List Value} (he : ws[q0]? = some (a, .inr (ci, fs))) (hc : cl[ci]? = some (C, T, N)) (k : Nat) (hk : k < N) (hlink : Cond.fieldLink own index C (T k).2.1 (T k).2.2.1 ∈ tG) (hdecl : (T k).1 = C) {v : Value} (hv : fs[k]? = some v) (hdg : decode cc pc = .ok (.getfield index, 3))
    (kk : W p l e R s m args below meth c H locs cells slots Q (F0 m (pc + 3) ls (v :: rest))) : W p l e R s m args below meth c H locs cells slots Q (F0 m pc ls (.ref a :: rest)) :=
  va_get E.1 E.2.1 E.2.2.2.2 hin E.2.2.2.1 hK hP q0 he hc k hk (E.2.2.2.2 _ hlink) (fun x h => by rw [hdecl] at h; exact h) hv hdg kk
theorem n_put (E : CallFix p m c cc nL s args tG own) {C : String} {T : u_T} {N ci index : Nat} (hin : ∀ w ∈ u_ws C T N, w ∈ tG) (ty0 : Nat → FieldType) (hty : ∀ k, k < N → parseFieldDescriptor (T k).2.2.1 = some (ty0 k)) (hnm : ∀ a, a < N → ∀ b, b < N → a ≠ b → (T a).2.1 ≠ (T b).2.1) (hK : va_K D cl tys s) (hP : va_P D cl ws H) (hD : va_D A ws) (hS : va_S A H0 H locs) (q0 : Nat) {fs : List Value} (he : ws[q0]? = some (a, .inr (ci, fs))) (hc : cl[ci]? = some (C, T, N)) (k : Nat) (hk : k < N) (hlink : Cond.fieldLink own index C (T k).2.1 (T k).2.2.1 ∈ tG) (hdecl : (T k).1 = C) (hfin : (T k).2.2.2 = false) (hd : parseFieldDescriptor (T k).2.2.1 = some .int) {x : Int32} (hl : k < fs.length) (hdg : decode cc pc = .ok (.putfield index, 3))
    (kk : ∀ (H1 : Heap) (locs1 : List Loc), va_P D cl (ws.set q0 (a, .inr (ci, fs.set k (.int x)))) H1 → va_S A H0 H1 locs1 → W p l e R s m args below meth c H1 locs1 cells slots Q (F0 m (pc + 3) ls rest)) : W p l e R s m args below meth c H locs cells slots Q (F0 m pc ls (.int x :: .ref a :: rest)) :=
  va_put E.1 E.2.1 E.2.2.2.2 hin ty0 hty hnm E.2.2.2.1 hK hP hD hS q0 he hc k hk (E.2.2.2.2 _ hlink) (fun x h => by rw [hdecl] at h; exact h) hfin hd (vp_nar_int x) rfl hl hdg (fun H1 locs1 h1 _ h3 => kk H1 locs1 h1 h3)
/-- arrays -/
theorem n_iald (E : CallFix p m c cc nL s args tG own) (hK : va_K D cl tys s) (hP : va_P D cl ws H) (q0 t0 : Nat) {cA : ClassId} {n : Nat} {f : Nat → Nat} (ha : ws[q0]? = some (a, .inl (cA, n, .inl (aN f)))) (ht : tys[t0]? = some (cA, .int)) {i : Nat} (hn : n < 2 ^ 31) (hi : i < n) (hdg : decode cc pc = .ok (.iaload, 1))
    (kk : W p l e R s m args below meth c H locs cells slots Q (F0 m (pc + 1) ls (.int (nI (f i)) :: rest))) : W p l e R s m args below meth c H locs cells slots Q (F0 m pc ls (.int (nI i) :: .ref a :: rest)) :=
  va_iald E.1 E.2.1 hK hP q0 t0 ha ht (vp_in_nI hi hn) hdg (tpi (by show nI (f _) = _; rw [nI_clamp (Nat.lt_trans hi hn)]) kk)
theorem n_lald (E : CallFix p m c cc nL s args tG own) (hK : va_K D cl tys s) (hP : va_P D cl ws H) (q0 t0 : Nat) {cA : ClassId} {n : Nat} {f : Nat → Int64} (ha : ws[q0]? = some (a, .inl (cA, n, .inr (.inl f)))) (ht : tys[t0]? = some (cA, .long)) {i : Nat} (hn : n < 2 ^ 31) (hi : i < n) (hdg : decode cc pc = .ok (.laload, 1))
    (kk : W p l e R s m args below meth c H locs cells slots Q (F0 m (pc + 1) ls (.long (f i) :: rest))) : W p l e R s m args below meth c H locs cells slots Q (F0 m pc ls (.int (nI i) :: .ref a :: rest)) :=
  va_lald E.1 E.2.1 hK hP q0 t0 ha ht (vp_in_nI hi hn) hdg (tpl (by rw [nI_clamp (Nat.lt_trans hi hn)]) kk)
/-- a cell of the table of the hall -/
theorem n_cald (E : CallFix p m c cc nL s args tG own) (hK : va_K D cl tys s) (hP : va_P D cl ws H) (q0 t0 : Nat) {cA : ClassId} {T : Nat → Nat → Int64} (ha : ws[q0]? = some (a, .inl (cA, 512, .inr (.inl (aT T))))) (ht : tys[t0]? = some (cA, .long)) {i : Nat} (r c0 : Nat) (hi : i = c0 * 128 + r) (hr : r < 128) (hc : c0 < 4) (hdg : decode cc pc = .ok (.laload, 1))
    (kk : W p l e R s m args below meth c H locs cells slots Q (F0 m (pc + 1) ls (.long (T r c0) :: rest))) : W p l e R s m args below meth c H locs cells slots Q (F0 m pc ls (.int (nI i) :: .ref a :: rest)) :=
  n_lald E hK hP q0 t0 ha ht (by omega) (by omega) hdg (tpl (aT_at T hi hr) kk)
/-- a cell of the reference's table -/
theorem n_rald (E : CallFix p m c cc nL s args tG own) (hK : va_K D cl tys s) (hP : va_P D cl ws H) (q0 t0 : Nat) {cA : ClassId} {T : Nat → Nat → Int64} (ha : ws[q0]? = some (a, .inl (cA, 512, .inr (.inl (aR T))))) (ht : tys[t0]? = some (cA, .long)) {i : Nat} (r c0 : Nat) (hi : i = 4 * r + c0) (hr : r < 128) (hc : c0 < 4) (hdg : decode cc pc = .ok (.laload, 1))
    (kk : W p l e R s m args below meth c H locs cells slots Q (F0 m (pc + 1) ls (.long (T r c0) :: rest))) : W p l e R s m args below meth c H locs cells slots Q (F0 m pc ls (.int (nI i) :: .ref a :: rest)) :=
  n_lald E hK hP q0 t0 ha ht (by omega) (by omega) hdg (tpl (aR_at T hi hc) kk)
theorem n_iast (E : CallFix p m c cc nL s args tG own) (hK : va_K D cl tys s) (hP : va_P D cl ws H) (hD : va_D A ws) (hS : va_S A H0 H locs) (q0 t0 : Nat) {cA : ClassId} {n : Nat} {f : Nat → Nat} (ha : ws[q0]? = some (a, .inl (cA, n, .inl (aN f)))) (ht : tys[t0]? = some (cA, .int)) {i x : Nat} (hn : n < 2 ^ 31) (hi : i < n) (hdg : decode cc pc = .ok (.iastore, 1))
    (kk : ∀ (H1 : Heap) (locs1 : List Loc), va_P D cl (ws.set q0 (a, .inl (cA, n, .inl (aN (fS f i x))))) H1 → va_S A H0 H1 locs1 → W p l e R s m args below meth c H1 locs1 cells slots Q (F0 m (pc + 1) ls rest)) : W p l e R s m args below meth c H locs cells slots Q (F0 m pc ls (.int (nI x) :: .int (nI i) :: .ref a :: rest)) :=
  va_iast E.1 E.2.1 hK hP hD hS q0 t0 ha ht (vp_in_nI hi hn) hdg (fun H1 locs1 h1 _ h3 => kk H1 locs1 (by rw [nI_clamp (Nat.lt_trans hi hn), aN_set] at h1; exact h1) h3)
theorem n_last (E : CallFix p m c cc nL s args tG own) (hK : va_K D cl tys s) (hP : va_P D cl ws H) (hD : va_D A ws) (hS : va_S A H0 H locs) (q0 t0 : Nat) {cA : ClassId} {n : Nat} {f : Nat → Int64} (ha : ws[q0]? = some (a, .inl (cA, n, .inr (.inl f)))) (ht : tys[t0]? = some (cA, .long)) {i : Nat} {x : Int64} (hn : n < 2 ^ 31) (hi : i < n) (hdg : decode cc pc = .ok (.lastore, 1))
    (kk : ∀ (H1 : Heap) (locs1 : List Loc), va_P D cl (ws.set q0 (a, .inl (cA, n, .inr (.inl (fS f i x))))) H1 → va_S A H0 H1 locs1 → W p l e R s m args below meth c H1 locs1 cells slots Q (F0 m (pc + 1) ls rest)) : W p l e R s m args below meth c H locs cells slots Q (F0 m pc ls (.long x :: .int (nI i) :: .ref a :: rest)) :=
  va_last E.1 E.2.1 hK hP hD hS q0 t0 ha ht (vp_in_nI hi hn) hdg (fun H1 locs1 h1 _ h3 => kk H1 locs1 (by rw [nI_clamp (Nat.lt_trans hi hn), aL_set] at h1; exact h1) h3)
theorem n_cast (E : CallFix p m c cc nL s args tG own) (hK : va_K D cl tys s) (hP : va_P D cl ws H) (hD : va_D A ws) (hS : va_S A H0 H locs) (q0 t0 : Nat) {cA : ClassId} {T : Nat → Nat → Int64} (ha : ws[q0]? = some (a, .inl (cA, 512, .inr (.inl (aT T))))) (ht : tys[t0]? = some (cA, .long)) {i : Nat} {x : Int64} (r c0 : Nat) (hi : i = c0 * 128 + r) (hr : r < 128) (hc : c0 < 4) (hdg : decode cc pc = .ok (.lastore, 1))
    (kk : ∀ (H1 : Heap) (locs1 : List Loc), va_P D cl (ws.set q0 (a, .inl (cA, 512, .inr (.inl (aT (tS T r c0 x)))))) H1 → va_S A H0 H1 locs1 → W p l e R s m args below meth c H1 locs1 cells slots Q (F0 m (pc + 1) ls rest)) : W p l e R s m args below meth c H locs cells slots Q (F0 m pc ls (.long x :: .int (nI i) :: .ref a :: rest)) :=
  n_last E hK hP hD hS q0 t0 ha ht (by omega) (by omega) hdg (fun H1 locs1 h1 h3 => kk H1 locs1 (by rw [← aT_set T x hi hr]; exact h1) h3)
theorem n_rast (E : CallFix p m c cc nL s args tG own) (hK : va_K D cl tys s) (hP : va_P D cl ws H) (hD : va_D A ws) (hS : va_S A H0 H locs) (q0 t0 : Nat) {cA : ClassId} {T : Nat → Nat → Int64} (ha : ws[q0]? = some (a, .inl (cA, 512, .inr (.inl (aR T))))) (ht : tys[t0]? = some (cA, .long)) {i : Nat} {x : Int64} (r c0 : Nat) (hi : i = 4 * r + c0) (hr : r < 128) (hc : c0 < 4) (hdg : decode cc pc = .ok (.lastore, 1))
    (kk : ∀ (H1 : Heap) (locs1 : List Loc), va_P D cl (ws.set q0 (a, .inl (cA, 512, .inr (.inl (aR (tS T r c0 x)))))) H1 → va_S A H0 H1 locs1 → W p l e R s m args below meth c H1 locs1 cells slots Q (F0 m (pc + 1) ls rest)) : W p l e R s m args below meth c H locs cells slots Q (F0 m pc ls (.long x :: .int (nI i) :: .ref a :: rest)) :=
  n_last E hK hP hD hS q0 t0 ha ht (by omega) (by omega) hdg (fun H1 locs1 h1 h3 => kk H1 locs1 (by rw [← aR_set T x hi hc]; exact h1) h3)
end CHB3
section CHB4
variable {p : Program} {l : Launch} {e : Env} {R : Room} {s : State} {m : MethodId} {args : Array Value} {below : List Frame} {meth : Method} {c : Code} {H : Heap} {locs : List Loc} {cells slots : Nat} {Q : State → Prop}
variable {cc : ByteArray} {pc : Nat} {ls : Array Slot} {st rest : List Value} {nL : Nat} {own : String}
variable {D : va_G} {cl : List vw_C} {tys : List (ClassId × FieldType)} {w : va_W} {H0 : Heap}
variable {y : MethodName} {b : ByteArray} {n na idx : Nat} {r : Option FieldType} {rm : Room} {Pc : Array Value → State → Prop} {Qc : Array Value → State → Outcome → State → Prop} {mc ms : Nat} {free : Addr → Prop} {As : List Value}
/-- what the tables must say of a call -/
def kB (own : String) (idx : Nat) (y : MethodName) (b : ByteArray) (n : Nat) (r : Option FieldType) (na : Nat) : Prop := Cond.methodLink own idx y ∈ tG ∧ Cond.code y b n r ∈ tG ∧ Cond.initialized y.cls ∈ tG ∧ y.cls ≠ "java/lang/invoke/MethodHandle" ∧ y.cls ≠ "java/lang/invoke/VarHandle" ∧ (parseMethodDescriptor y.desc).map (fun d => d.parameters.length) = some na
def kS (own : String) (idx : Nat) (y : MethodName) (b : ByteArray) (n : Nat) (r : Option FieldType) (na : Nat) : Prop := kB own idx y b n r na ∧ Cond.static y ∈ tG
def kV (own : String) (idx : Nat) (y : MethodName) (b : ByteArray) (n : Nat) (r : Option FieldType) (na : Nat) : Prop := kB own idx y b n r na ∧ Cond.instanceMethod y ∈ tG ∧ Cond.selects y.cls y y ∈ tG
theorem k_cb (E : CallFix p m c cc nL s args tG own) (hk : kB own idx y b n r na) (hrc : rm.cells = mc) (hrs : rm.slots = ms) (hR : rm.frames + 1 ≤ R.frames ∧ 8 + (n + 11) + rm.locals ≤ R.locals) : CallB R s args own idx y b n r (wA y b n r) rm mc ms na :=
  callB_of na E.2.2.2.2 (gA hk.2.1) rfl hrc hrs (E.2.2.2.2 _ hk.2.2.1) (E.2.2.2.2 _ hk.1) ⟨hk.2.2.2.1, hk.2.2.2.2.1, hk.2.2.2.2.2⟩ hR
theorem pre0 {s : State} {H : Heap} {As : List Value} : PreS s H (va_Pc As (fun _ => True)) As := ⟨fun _ _ _ _ q => ⟨q.1, trivial⟩, fun _ _ _ => ⟨rfl, trivial⟩⟩
/-- a world as a premise -/
abbrev pW (D : va_G) (cl : List vw_C) (tys : List (ClassId × FieldType)) (w : va_W) : State → Prop := fun U => va_P D cl w U.heap ∧ va_K D cl tys U
theorem preW (hK : va_K D cl tys s) (hP : va_P D cl w H) (As : List Value) : PreS s H (va_Pc As (pW D cl tys w)) As :=
  ⟨fun a U g mk q => ⟨q.1, q.2.1, va_K.moved (u := U) (U := U.calling g mk a) (Vm.Alike.refl U.vm) q.2.2⟩, fun U hU hW => ⟨rfl, by rw [hU]; exact hP, va_K.moved hW.alike hK⟩⟩
theorem run_S (E : CallFix p m c cc nL s args tG own) (hM : Met l y (wA y b n r) rm Pc Qc mc ms free) (hk : kS own idx y b n r na) (hrc : rm.cells = mc) (hrs : rm.slots = ms) (hR : rm.frames + 1 ≤ R.frames ∧ 8 + (n + 11) + rm.locals ≤ R.locals) (hp : PreS s H Pc As) (hn : As.length = na) (hz : ls.size = nL) (hst : st = As.reverse ++ rest) (hW : (rest.map fun v => v.category).sum ≤ 8) (hdg : decode cc pc = .ok (.invokestatic idx, 3)) (hf : cells + mc ≤ R.cells ∧ slots + ms ≤ R.slots) :
    va_Run p l e R s m args below meth c H locs cells slots mc ms (F0 m pc ls st) rest (Qc As.toArray) free :=
  va_runS E hM ⟨k_cb E hk.1 hrc hrs hR, E.2.2.2.2 _ hk.2⟩ hp rfl hn hz hst (lv_room hW) hdg hf
theorem run_V (E : CallFix p m c cc nL s args tG own) (hM : Met l y (wA y b n r) rm Pc Qc mc ms free) (hk : kV own idx y b n r na) (hrc : rm.cells = mc) (hrs : rm.slots = ms) (hR : rm.frames + 1 ≤ R.frames ∧ 8 + (n + 11) + rm.locals ≤ R.locals) {a : Nat} (hp : PreV s H y.cls a Pc As) (hn : As.length = na) (hz : ls.size = nL) (hst : st = As.reverse ++ .ref a :: rest) (hW : (rest.map fun v => v.category).sum ≤ 8) (hdg : decode cc pc = .ok (.invokevirtual idx, 3)) (hf : cells + mc ≤ R.cells ∧ slots + ms ≤ R.slots) :
    va_Run p l e R s m args below meth c H locs cells slots mc ms (F0 m pc ls st) rest (Qc (Value.ref a :: As).toArray) free :=
  va_runV E hM ⟨k_cb E hk.1 hrc hrs hR, E.2.2.2.2 _ hk.2.1, E.2.2.2.2 _ hk.2.2⟩ hp rfl hn hz hst (lv_room hW) hdg hf
/-- static calls that read nothing and write nothing -/
theorem cS_i (E : CallFix p m c cc nL s args tG own) {v : Int32} (hM : Met l y (wA y b n r) rm (va_Pc As (fun _ => True)) (vp_Si (fun z => z = v)) 0 0 (fun _ => False)) (hk : kS own idx y b n r na) (hrc : rm.cells = 0) (hrs : rm.slots = 0) (hR : rm.frames + 1 ≤ R.frames ∧ 8 + (n + 11) + rm.locals ≤ R.locals) (hn : As.length = na) (hl : ls.size = nL) (hst : st = As.reverse ++ rest) (hW : (rest.map fun v => v.category).sum ≤ 8) (hdg : decode cc pc = .ok (.invokestatic idx, 3)) (hf : cells ≤ R.cells ∧ slots ≤ R.slots)
    (kk : W p l e R s m args below meth c H locs cells slots Q (F0 m (pc + 3) ls (.int v :: rest))) : W p l e R s m args below meth c H locs cells slots Q (F0 m pc ls st) :=
  vp_callSi (run_S E hM hk hrc hrs hR pre0 hn hl hst hW hdg hf).run (fun z hz => by rw [hz]; exact kk)
theorem cS_v (E : CallFix p m c cc nL s args tG own) (hM : Met l y (wA y b n r) rm (va_Pc As (fun _ => True)) (va_Sv (fun _ => True)) 0 0 (fun _ => False)) (hk : kS own idx y b n r na) (hrc : rm.cells = 0) (hrs : rm.slots = 0) (hR : rm.frames + 1 ≤ R.frames ∧ 8 + (n + 11) + rm.locals ≤ R.locals) (hn : As.length = na) (hl : ls.size = nL) (hst : st = As.reverse ++ rest) (hW : (rest.map fun v => v.category).sum ≤ 8) (hdg : decode cc pc = .ok (.invokestatic idx, 3)) (hf : cells ≤ R.cells ∧ slots ≤ R.slots)
    (kk : W p l e R s m args below meth c H locs cells slots Q (F0 m (pc + 3) ls rest)) : W p l e R s m args below meth c H locs cells slots Q (F0 m pc ls st) :=
  va_csv (run_S E hM hk hrc hrs hR pre0 hn hl hst hW hdg hf).run (fun _ => kk)
theorem cV_v (E : CallFix p m c cc nL s args tG own) {a : Nat} (hM : Met l y (wA y b n r) rm (va_Pc (.ref a :: As) (pW D cl tys w)) (va_Sv (fun _ => True)) 0 0 (fun _ => False)) (hk : kV own idx y b n r na) (hK : va_K D cl tys s) (hP : va_P D cl w H) (q0 : Nat) {ci N : Nat} {T : u_T} {fs : List Value} (he : w[q0]? = some (a, .inr (ci, fs))) (hc : cl[ci]? = some (y.cls, T, N)) (hrc : rm.cells = 0) (hrs : rm.slots = 0) (hR : rm.frames + 1 ≤ R.frames ∧ 8 + (n + 11) + rm.locals ≤ R.locals) (hn : As.length = na) (hl : ls.size = nL) (hst : st = As.reverse ++ .ref a :: rest) (hW : (rest.map fun v => v.category).sum ≤ 8) (hdg : decode cc pc = .ok (.invokevirtual idx, 3)) (hf : cells ≤ R.cells ∧ slots ≤ R.slots)
    (kk : W p l e R s m args below meth c H locs cells slots Q (F0 m (pc + 3) ls rest)) : W p l e R s m args below meth c H locs cells slots Q (F0 m pc ls st) :=
  va_csv (run_V E hM hk hrc hrs hR ⟨(preW hK hP (.ref a :: As)).1, va_recv hK hP hc he, (preW hK hP (.ref a :: As)).2⟩ hn hl hst hW hdg hf).run (fun _ => kk)
/-- calls on an object of a world that stays: int, long -/
theorem cV_i (E : CallFix p m c cc nL s args tG own) {v : Int32} {a : Nat} (hM : Met l y (wA y b n r) rm (va_Pc (.ref a :: As) (pW D cl tys w)) (vp_Si (fun z => z = v)) 0 0 (fun _ => False)) (hk : kV own idx y b n r na) (hK : va_K D cl tys s) (hP : va_P D cl w H) (q0 : Nat) {ci N : Nat} {T : u_T} {fs : List Value} (he : w[q0]? = some (a, .inr (ci, fs))) (hc : cl[ci]? = some (y.cls, T, N)) (hrc : rm.cells = 0) (hrs : rm.slots = 0) (hR : rm.frames + 1 ≤ R.frames ∧ 8 + (n + 11) + rm.locals ≤ R.locals) (hn : As.length = na) (hl : ls.size = nL) (hst : st = As.reverse ++ .ref a :: rest) (hW : (rest.map fun v => v.category).sum ≤ 8) (hdg : decode cc pc = .ok (.invokevirtual idx, 3)) (hf : cells ≤ R.cells ∧ slots ≤ R.slots)
    (kk : W p l e R s m args below meth c H locs cells slots Q (F0 m (pc + 3) ls (.int v :: rest))) : W p l e R s m args below meth c H locs cells slots Q (F0 m pc ls st) :=
  vp_callSi (run_V E hM hk hrc hrs hR ⟨(preW hK hP (.ref a :: As)).1, va_recv hK hP hc he, (preW hK hP (.ref a :: As)).2⟩ hn hl hst hW hdg hf).run (fun z hz => by rw [hz]; exact kk)
theorem cV_l (E : CallFix p m c cc nL s args tG own) {v : Int64} {a : Nat} (hM : Met l y (wA y b n r) rm (va_Pc (.ref a :: As) (pW D cl tys w)) (vp_Sl (fun z => z = v)) 0 0 (fun _ => False)) (hk : kV own idx y b n r na) (hK : va_K D cl tys s) (hP : va_P D cl w H) (q0 : Nat) {ci N : Nat} {T : u_T} {fs : List Value} (he : w[q0]? = some (a, .inr (ci, fs))) (hc : cl[ci]? = some (y.cls, T, N)) (hrc : rm.cells = 0) (hrs : rm.slots = 0) (hR : rm.frames + 1 ≤ R.frames ∧ 8 + (n + 11) + rm.locals ≤ R.locals) (hn : As.length = na) (hl : ls.size = nL) (hst : st = As.reverse ++ .ref a :: rest) (hW : (rest.map fun v => v.category).sum ≤ 8) (hdg : decode cc pc = .ok (.invokevirtual idx, 3)) (hf : cells ≤ R.cells ∧ slots ≤ R.slots)
    (kk : W p l e R s m args below meth c H locs cells slots Q (F0 m (pc + 3) ls (.long v :: rest))) : W p l e R s m args below meth c H locs cells slots Q (F0 m pc ls st) :=
  vp_callSl (run_V E hM hk hrc hrs hR ⟨(preW hK hP (.ref a :: As)).1, va_recv hK hP hc he, (preW hK hP (.ref a :: As)).2⟩ hn hl hst hW hdg hf).run (fun z hz => by rw [hz]; exact kk)
/-- calls on an object of a world that becomes another: void, int -/
abbrev qV {S : Type} (post : S → Prop) (D : va_G) (cl : List vw_C) (w : S → va_W) (A : Nat → Prop) : Array Value → State → Outcome → State → Prop := va_Qv post (fun u t => va_P D cl (w u) t.heap) A
abbrev qI {S : Type} (post : Int32 → S → Prop) (D : va_G) (cl : List vw_C) (w : S → va_W) (A : Nat → Prop) : Array Value → State → Outcome → State → Prop := va_Qi post (fun u t => va_P D cl (w u) t.heap) A
abbrev qL {S : Type} (post : Int64 → S → Prop) (D : va_G) (cl : List vw_C) (w : S → va_W) (A : Nat → Prop) : Array Value → State → Outcome → State → Prop := va_Ql post (fun u t => va_P D cl (w u) t.heap) A
theorem cV_wv (E : CallFix p m c cc nL s args tG own) {a : Nat} {S : Type} {post : S → Prop} {w1 : S → va_W} {A A0 : Nat → Prop} (hM : Met l y (wA y b n r) rm (va_Pc (.ref a :: As) (pW D cl tys w)) (qV post D cl w1 A) 0 0 A) (hk : kV own idx y b n r na) (hK : va_K D cl tys s) (hP : va_P D cl w H) (hS : va_S A0 H0 H locs) (hA : ∀ q, A q → A0 q) (q0 : Nat) {ci N : Nat} {T : u_T} {fs : List Value} (he : w[q0]? = some (a, .inr (ci, fs))) (hc : cl[ci]? = some (y.cls, T, N)) (hrc : rm.cells = 0) (hrs : rm.slots = 0) (hR : rm.frames + 1 ≤ R.frames ∧ 8 + (n + 11) + rm.locals ≤ R.locals) (hn : As.length = na) (hl : ls.size = nL) (hst : st = As.reverse ++ .ref a :: rest) (hW : (rest.map fun v => v.category).sum ≤ 8) (hdg : decode cc pc = .ok (.invokevirtual idx, 3)) (hf : cells ≤ R.cells ∧ slots ≤ R.slots)
    (kk : ∀ (u : S) (H1 : Heap) (locs1 : List Loc), post u → va_P D cl (w1 u) H1 → H.size ≤ H1.size → (∀ q : Nat, q < H.size → ¬ A q → H1[q]? = H[q]?) → va_S A0 H0 H1 locs1 → W p l e R s m args below meth c H1 locs1 cells slots Q (F0 m (pc + 3) ls rest)) : W p l e R s m args below meth c H locs cells slots Q (F0 m pc ls st) :=
  va_callv (run_V E hM hk hrc hrs hR ⟨(preW hK hP (.ref a :: As)).1, va_recv hK hP hc he, (preW hK hP (.ref a :: As)).2⟩ hn hl hst hW hdg hf) hS (fun q _ h => hA q h) hA (fun u t H1 locs1 ht _ hp hB hz hk1 hS1 => kk u H1 locs1 hp (by rw [← ht]; exact hB) hz hk1 hS1)
theorem cV_wi (E : CallFix p m c cc nL s args tG own) {a : Nat} {S : Type} {post : Int32 → S → Prop} {w1 : S → va_W} {A A0 : Nat → Prop} (hM : Met l y (wA y b n r) rm (va_Pc (.ref a :: As) (pW D cl tys w)) (qI post D cl w1 A) 0 0 A) (hk : kV own idx y b n r na) (hK : va_K D cl tys s) (hP : va_P D cl w H) (hS : va_S A0 H0 H locs) (hA : ∀ q, A q → A0 q) (q0 : Nat) {ci N : Nat} {T : u_T} {fs : List Value} (he : w[q0]? = some (a, .inr (ci, fs))) (hc : cl[ci]? = some (y.cls, T, N)) (hrc : rm.cells = 0) (hrs : rm.slots = 0) (hR : rm.frames + 1 ≤ R.frames ∧ 8 + (n + 11) + rm.locals ≤ R.locals) (hn : As.length = na) (hl : ls.size = nL) (hst : st = As.reverse ++ .ref a :: rest) (hW : (rest.map fun v => v.category).sum ≤ 8) (hdg : decode cc pc = .ok (.invokevirtual idx, 3)) (hf : cells ≤ R.cells ∧ slots ≤ R.slots)
    (kk : ∀ (z : Int32) (u : S) (H1 : Heap) (locs1 : List Loc), post z u → va_P D cl (w1 u) H1 → H.size ≤ H1.size → (∀ q : Nat, q < H.size → ¬ A q → H1[q]? = H[q]?) → va_S A0 H0 H1 locs1 → W p l e R s m args below meth c H1 locs1 cells slots Q (F0 m (pc + 3) ls (.int z :: rest))) : W p l e R s m args below meth c H locs cells slots Q (F0 m pc ls st) :=
  va_calli (run_V E hM hk hrc hrs hR ⟨(preW hK hP (.ref a :: As)).1, va_recv hK hP hc he, (preW hK hP (.ref a :: As)).2⟩ hn hl hst hW hdg hf) hS (fun q _ h => hA q h) hA (fun z u t H1 locs1 ht _ hp hB hz hk1 hS1 => kk z u H1 locs1 hp (by rw [← ht]; exact hB) hz hk1 hS1)
theorem cV_wl (E : CallFix p m c cc nL s args tG own) {a : Nat} {S : Type} {post : Int64 → S → Prop} {w1 : S → va_W} {A A0 : Nat → Prop} (hM : Met l y (wA y b n r) rm (va_Pc (.ref a :: As) (pW D cl tys w)) (qL post D cl w1 A) 0 0 A) (hk : kV own idx y b n r na) (hK : va_K D cl tys s) (hP : va_P D cl w H) (hS : va_S A0 H0 H locs) (hA : ∀ q, A q → A0 q) (q0 : Nat) {ci N : Nat} {T : u_T} {fs : List Value} (he : w[q0]? = some (a, .inr (ci, fs))) (hc : cl[ci]? = some (y.cls, T, N)) (hrc : rm.cells = 0) (hrs : rm.slots = 0) (hR : rm.frames + 1 ≤ R.frames ∧ 8 + (n + 11) + rm.locals ≤ R.locals) (hn : As.length = na) (hl : ls.size = nL) (hst : st = As.reverse ++ .ref a :: rest) (hW : (rest.map fun v => v.category).sum ≤ 8) (hdg : decode cc pc = .ok (.invokevirtual idx, 3)) (hf : cells ≤ R.cells ∧ slots ≤ R.slots)
    (kk : ∀ (z : Int64) (u : S) (H1 : Heap) (locs1 : List Loc), post z u → va_P D cl (w1 u) H1 → H.size ≤ H1.size → (∀ q : Nat, q < H.size → ¬ A q → H1[q]? = H[q]?) → va_S A0 H0 H1 locs1 → W p l e R s m args below meth c H1 locs1 cells slots Q (F0 m (pc + 3) ls (.long z :: rest))) : W p l e R s m args below meth c H locs cells slots Q (F0 m pc ls st) :=
  va_calll (run_V E hM hk hrc hrs hR ⟨(preW hK hP (.ref a :: As)).1, va_recv hK hP hc he, (preW hK hP (.ref a :: As)).2⟩ hn hl hst hW hdg hf) hS (fun q _ h => hA q h) hA (fun z u t H1 locs1 ht _ hp hB hz hk1 hS1 => kk z u H1 locs1 hp (by rw [← ht]; exact hB) hz hk1 hS1)
/-- ends -/
theorem e_v (E : CallFix p m c cc nL s args tG own) (hr : meth.sig.returnType = none) (hlk : meth.locks = false) (hdg : decode cc pc = .ok (.return_, 1)) : W p l e R s m args below meth c s.heap [] 0 0 (MQ below (va_Sv (fun _ => True)) args s 0 0 (fun _ => False)) (F0 m pc ls []) :=
  W.vret E.1 E.2.1 hr (fun t ht _ => ⟨rfl, trivial, ht⟩) (fun q h => nomatch h) hdg hlk
theorem e_i (E : CallFix p m c cc nL s args tG own) (hr : meth.sig.returnType = some .int) (hlk : meth.locks = false) {v w : Int32} (hv : v = w) (hdg : decode cc pc = .ok (.ireturn, 1)) : W p l e R s m args below meth c s.heap [] 0 0 (MQ below (vp_Si (fun z => z = w)) args s 0 0 (fun _ => False)) (F0 m pc ls [.int v]) :=
  W.iret E.1 E.2.1 hr (fun t ht _ => ⟨v, rfl, hv, ht⟩) (fun q h => nomatch h) hdg hlk
theorem e_z (E : CallFix p m c cc nL s args tG own) (hr : meth.sig.returnType = some .boolean) (hlk : meth.locks = false) {v : Int32} {w : Bool} (hv : v = bI w) (hdg : decode cc pc = .ok (.ireturn, 1)) : W p l e R s m args below meth c s.heap [] 0 0 (MQ below (vp_Si (fun z => z = bI w)) args s 0 0 (fun _ => False)) (F0 m pc ls [.int v]) :=
  W.zret E.1 E.2.1 hr (by rw [hv]; exact bI_nar w) (fun t ht _ => ⟨v, rfl, hv, ht⟩) (fun q h => nomatch h) hdg hlk
theorem e_l (E : CallFix p m c cc nL s args tG own) (hr : meth.sig.returnType = some .long) (hlk : meth.locks = false) {v w : Int64} (hv : v = w) (hdg : decode cc pc = .ok (.lreturn, 1)) : W p l e R s m args below meth c s.heap [] 0 0 (MQ below (vp_Sl (fun z => z = w)) args s 0 0 (fun _ => False)) (F0 m pc ls [.long v]) :=
  W.lret E.1 E.2.1 hr (fun t ht _ => ⟨v, rfl, hv, ht⟩) (fun q h => nomatch h) hdg hlk
theorem e_wv (E : CallFix p m c cc nL s args tG own) (hr : meth.sig.returnType = none) (hlk : meth.locks = false) {S : Type} {post : S → Prop} {w1 : S → va_W} {A : Nat → Prop} (hS : va_S A s.heap H locs) (u : S) (hp : post u) (hP : va_P D cl (w1 u) H) (hdg : decode cc pc = .ok (.return_, 1)) : W p l e R s m args below meth c H locs 0 0 (MQ below (qV post D cl w1 A) args s 0 0 A) (F0 m pc ls []) :=
  W.vret E.1 E.2.1 hr (fun t ht _ => ⟨⟨u, rfl, hp, (show va_P D cl (w1 u) t.heap by rw [ht]; exact hP)⟩, hS.F ht⟩) hS.2.2 hdg hlk
theorem e_wi (E : CallFix p m c cc nL s args tG own) (hr : meth.sig.returnType = some .int) (hlk : meth.locks = false) {S : Type} {post : Int32 → S → Prop} {w1 : S → va_W} {A : Nat → Prop} (hS : va_S A s.heap H locs) {v : Int32} (u : S) (hp : post v u) (hP : va_P D cl (w1 u) H) (hdg : decode cc pc = .ok (.ireturn, 1)) : W p l e R s m args below meth c H locs 0 0 (MQ below (qI post D cl w1 A) args s 0 0 A) (F0 m pc ls [.int v]) :=
  W.iret E.1 E.2.1 hr (fun t ht _ => ⟨⟨v, u, rfl, hp, (show va_P D cl (w1 u) t.heap by rw [ht]; exact hP)⟩, hS.F ht⟩) hS.2.2 hdg hlk
theorem e_wz (E : CallFix p m c cc nL s args tG own) (hr : meth.sig.returnType = some .boolean) (hlk : meth.locks = false) {S : Type} {post : Int32 → S → Prop} {w1 : S → va_W} {A : Nat → Prop} (hS : va_S A s.heap H locs) {v : Bool} (u : S) (hp : post (bI v) u) (hP : va_P D cl (w1 u) H) (hdg : decode cc pc = .ok (.ireturn, 1)) : W p l e R s m args below meth c H locs 0 0 (MQ below (qI post D cl w1 A) args s 0 0 A) (F0 m pc ls [.int (bI v)]) :=
  W.zret E.1 E.2.1 hr (bI_nar v) (fun t ht _ => ⟨⟨bI v, u, rfl, hp, (show va_P D cl (w1 u) t.heap by rw [ht]; exact hP)⟩, hS.F ht⟩) hS.2.2 hdg hlk
theorem e_wl (E : CallFix p m c cc nL s args tG own) (hr : meth.sig.returnType = some .long) (hlk : meth.locks = false) {S : Type} {post : Int64 → S → Prop} {w1 : S → va_W} {A : Nat → Prop} (hS : va_S A s.heap H locs) {v : Int64} (u : S) (hp : post v u) (hP : va_P D cl (w1 u) H) (hdg : decode cc pc = .ok (.lreturn, 1)) : W p l e R s m args below meth c H locs 0 0 (MQ below (qL post D cl w1 A) args s 0 0 A) (F0 m pc ls [.long v]) :=
  W.lret E.1 E.2.1 hr (fun t ht _ => ⟨⟨v, u, rfl, hp, (show va_P D cl (w1 u) t.heap by rw [ht]; exact hP)⟩, hS.F ht⟩) hS.2.2 hdg hlk
end CHB4
section CHB5
variable {p : Program} {l : Launch} {e : Env} {R : Room} {s : State} {m : MethodId} {args : Array Value} {below : List Frame} {meth : Method} {c : Code} {H : Heap} {locs : List Loc} {cells slots : Nat} {Q : State → Prop}
variable {cc : ByteArray} {pc : Nat} {ls : Array Slot} {rest : List Value} {nL : Nat} {own : String}
theorem n_idiv (E : CallFix p m c cc nL s args tG own) {a b : Nat} (ha : a < 2 ^ 31) (h0 : 0 < b) (hb : b < 2 ^ 31) (hdg : decode cc pc = .ok (.idiv, 1)) (k : W p l e R s m args below meth c H locs cells slots Q (F0 m (pc + 1) ls (.int (nI (a / b)) :: rest))) : W p l e R s m args below meth c H locs cells slots Q (F0 m pc ls (.int (nI b) :: .int (nI a) :: rest)) := lv_idiv E.1 E.2.1 hdg (nI_ne0 h0 hb) (tpi (pk_div ha h0 hb) k)
theorem n_irem (E : CallFix p m c cc nL s args tG own) {a b : Nat} (ha : a < 2 ^ 31) (h0 : 0 < b) (hb : b < 2 ^ 31) (hdg : decode cc pc = .ok (.irem, 1)) (k : W p l e R s m args below meth c H locs cells slots Q (F0 m (pc + 1) ls (.int (nI (a % b)) :: rest))) : W p l e R s m args below meth c H locs cells slots Q (F0 m pc ls (.int (nI b) :: .int (nI a) :: rest)) := lv_irem E.1 E.2.1 hdg (nI_ne0 h0 hb) (tpi (pk_rem ha h0 hb) k)
theorem n_i2l (E : CallFix p m c cc nL s args tG own) {a : Nat} (ha : a < 2 ^ 31) (hdg : decode cc pc = .ok (.i2l, 1)) (k : W p l e R s m args below meth c H locs cells slots Q (F0 m (pc + 1) ls (.long (lN a) :: rest))) : W p l e R s m args below meth c H locs cells slots Q (F0 m pc ls (.int (nI a) :: rest)) := lv_i2l E.1 E.2.1 hdg (nI_l ha) k
theorem dec1 {a : Nat} (h : 0 < a) : nI a + Int32.ofInt (-1) = nI (a - 1) := by
  obtain ⟨b, rfl⟩ : ∃ b, a = b + 1 := ⟨a - 1, by omega⟩
  exact pk_m1 b
end CHB5
end
section
/-! The two worlds (the hall's and the model's) over one table T, n rows, k conditions (columns kc, ops ko, values kv); and what is said of them. -/
def TR1 : u_T := fun k => match k with
  | 0 => ("ColumnHallModel", "code", "I", false)
  | 1 => ("ColumnHallModel", "count", "I", false)
  | 2 => ("ColumnHallModel", "cells", "[J", true)
  | 3 => ("ColumnHallModel", "conditions", "I", false)
  | 4 => ("ColumnHallModel", "columns", "[I", true)
  | 5 => ("ColumnHallModel", "ops", "[I", true)
  | _ => ("ColumnHallModel", "values", "[J", true)
def tyR1 : Nat → FieldType := fun k => match k with
  | 0 => .int
  | 1 => .int
  | 2 => .array .long
  | 3 => .int
  | 4 => .array .int
  | 5 => .array .int
  | _ => .array .long
theorem nmR1 : ∀ a, a < 7 → ∀ b, b < 7 → a ≠ b → (TR1 a).2.1 ≠ (TR1 b).2.1 := by decide +kernel
theorem tyR1_ok : ∀ k, k < 7 → parseFieldDescriptor (TR1 k).2.2.1 = some (tyR1 k) := by decide +kernel
abbrev c2 : List vw_C := [(RX0, TX0, 11), (RX1, TR1, 7)]
abbrev fX (ad : Nat → Nat) (n k : Nat) : List Value := [.ref (ad 1), .int (nI n), .ref (ad 2), .ref (ad 3), .ref (ad 4), .int (nI k), .ref (ad 5), .ref (ad 6), .ref (ad 7), .ref (ad 8), .ref (ad 9)]
abbrev wX (ad : Nat → Nat) (ca : Nat → ClassId) (T : Nat → Nat → Int64) (n : Nat) (kc ko : Nat → Nat) (kv : Nat → Int64) (k : Nat) (lo hi : Nat → Int64) (bw bb pk : Nat → Nat) : va_W :=
  [(ad 0, .inr (0, fX ad n k)), (ad 1, .inl (ca 1, 512, .inr (.inl (aT T)))), (ad 2, .inl (ca 2, 3, .inl (aN kc))), (ad 3, .inl (ca 3, 3, .inl (aN ko))), (ad 4, .inl (ca 4, 3, .inr (.inl kv))),
   (ad 5, .inl (ca 5, 32, .inr (.inl lo))), (ad 6, .inl (ca 6, 32, .inr (.inl hi))), (ad 7, .inl (ca 7, 32, .inl (aN bw))), (ad 8, .inl (ca 8, 32, .inl (aN bb))), (ad 9, .inl (ca 9, 128, .inl (aN pk)))]
abbrev tX (ca : Nat → ClassId) : List (ClassId × FieldType) := [(ca 1, .long), (ca 2, .int), (ca 3, .int), (ca 4, .long), (ca 5, .long), (ca 6, .long), (ca 7, .int), (ca 8, .int), (ca 9, .int)]
abbrev wR (ad : Nat → Nat) (ca : Nat → ClassId) (T : Nat → Nat → Int64) (n : Nat) (kc ko : Nat → Nat) (kv : Nat → Int64) (k cd : Nat) : va_W :=
  [(ad 0, .inr (1, [.int (nI cd), .int (nI n), .ref (ad 1), .int (nI k), .ref (ad 2), .ref (ad 3), .ref (ad 4)])), (ad 1, .inl (ca 1, 512, .inr (.inl (aR T)))), (ad 2, .inl (ca 2, 3, .inl (aN kc))), (ad 3, .inl (ca 3, 3, .inl (aN ko))), (ad 4, .inl (ca 4, 3, .inr (.inl kv)))]
abbrev tR (ca : Nat → ClassId) : List (ClassId × FieldType) := [(ca 1, .long), (ca 2, .int), (ca 3, .int), (ca 4, .long)]
/-! words of the pure side -/
section PURE
/-- whether a condition holds for a number; whether some number from lo to hi makes it hold -/
def hO (op : Nat) (x v : Int64) : Bool := if op = 0 then decide (x < v) else if op = 1 then !decide (v < x) else if op = 2 then decide (x = v) else if op = 3 then !decide (x < v) else if op = 4 then decide (v < x) else !decide (x = v)
def cH (op : Nat) (v lo hi : Int64) : Bool := if op = 0 then decide (lo < v) else if op = 1 then !decide (v < lo) else if op = 2 then !decide (v < lo) && !decide (hi < v) else if op = 3 then !decide (hi < v) else if op = 4 then decide (v < hi) else !decide (lo = v) || !decide (hi = v)
/-- all of the first k -/
def al (p : Nat → Bool) : Nat → Bool
  | 0 => true
  | j + 1 => al p j && p j
/-- how many of the first n -/
def ct (p : Nat → Bool) : Nat → Nat
  | 0 => 0
  | j + 1 => ct p j + if p j then 1 else 0
/-- what the first n add up to -/
def sm (f : Nat → Int64) : Nat → Int64
  | 0 => 0
  | j + 1 => sm f j + f j
/-- how many the first n add up to -/
def sn (f : Nat → Nat) : Nat → Nat
  | 0 => 0
  | j + 1 => sn f j + f j
/-- row r is chosen -/
def ch (T : Nat → Nat → Int64) (kc ko : Nat → Nat) (kv : Nat → Int64) (k r : Nat) : Bool := al (fun i => hO (ko i) (T r (kc i)) (kv i)) k
theorem al_iff {p : Nat → Bool} : ∀ {n : Nat}, al p n = true ↔ ∀ j, j < n → p j = true
  | 0 => ⟨fun _ j h => by omega, fun _ => rfl⟩
  | n + 1 => by
    rw [al, Bool.and_eq_true, al_iff (n := n)]
    refine ⟨fun h j hj => ?_, fun h => ⟨fun j hj => h j (by omega), h n (by omega)⟩⟩
    rcases Nat.lt_succ_iff_lt_or_eq.mp hj with h1 | h1
    · exact h.1 j h1
    · rw [h1]; exact h.2
theorem al_false {p : Nat → Bool} {n j : Nat} (hj : j < n) (h : p j = false) : al p n = false := by
  cases e : al p n
  · rfl
  · rw [al_iff.mp e j hj] at h; cases h
theorem al_congr {p q : Nat → Bool} {n : Nat} (h : ∀ j, j < n → p j = q j) : al p n = al q n := by
  induction n with
  | zero => rfl
  | succ n ih => rw [al, al, ih (fun j hj => h j (by omega)), h n (by omega)]
theorem ct_le (p : Nat → Bool) : ∀ n, ct p n ≤ n
  | 0 => Nat.le_refl 0
  | n + 1 => by have := ct_le p n; rw [ct]; split <;> omega
theorem ct_mono (p : Nat → Bool) {a b : Nat} (h : a ≤ b) : ct p a ≤ ct p b := by
  induction b with
  | zero => rw [Nat.le_zero.mp h]; exact Nat.le_refl _
  | succ b ih =>
    rcases Nat.lt_succ_iff_lt_or_eq.mp (Nat.lt_succ_of_le h) with h1 | h1
    · have := ih (by omega); rw [ct]; omega
    · rw [h1]; exact Nat.le_refl _
theorem ct_congr {p q : Nat → Bool} {n : Nat} (h : ∀ j, j < n → p j = q j) : ct p n = ct q n := by
  induction n with
  | zero => rfl
  | succ n ih => rw [ct, ct, ih (fun j hj => h j (by omega)), h n (by omega)]
theorem ct_none {p : Nat → Bool} {a b : Nat} (hab : a ≤ b) (h : ∀ j, a ≤ j → j < b → p j = false) : ct p b = ct p a := by
  induction b with
  | zero => rw [Nat.le_zero.mp hab]
  | succ b ih =>
    rcases Nat.lt_succ_iff_lt_or_eq.mp (Nat.lt_succ_of_le hab) with h1 | h1
    · rw [ct, ih (by omega) (fun j h2 h3 => h j h2 (by omega)), h b (by omega) (by omega)]; rfl
    · rw [h1]
theorem eq_lts (v x : Int64) : (!decide (v < x) && !decide (x < v)) = decide (x = v) := by
  by_cases hx : x = v
  · subst hx; simp [Int64.lt_irrefl]
  · rcases Int64.lt_or_lt_of_ne hx with h | h
    · rw [decide_eq_true h, decide_eq_false hx, Bool.not_true, Bool.and_false]
    · rw [decide_eq_true h, decide_eq_false hx, Bool.not_true, Bool.false_and]
theorem cH_one (op : Nat) (v x : Int64) : cH op v x x = hO op x v := by
  unfold cH hO
  by_cases h0 : op = 0
  · rw [if_pos h0, if_pos h0]
  rw [if_neg h0, if_neg h0]
  by_cases h1 : op = 1
  · rw [if_pos h1, if_pos h1]
  rw [if_neg h1, if_neg h1]
  by_cases h2 : op = 2
  · rw [if_pos h2, if_pos h2]; exact eq_lts v x
  rw [if_neg h2, if_neg h2]
  by_cases h3 : op = 3
  · rw [if_pos h3, if_pos h3]
  rw [if_neg h3, if_neg h3]
  by_cases h4 : op = 4
  · rw [if_pos h4, if_pos h4]
  rw [if_neg h4, if_neg h4, Bool.or_self]
end PURE
end
section
/-! Pure rows for the walks of the hall: choosing, packing. The rows uN .. uN_sk are from the bits to paste. -/
section PU1
/-! ===== Int64 as an unsigned number: uN x ===== -/
def uN (x : Int64) : Nat := x.toUInt64.toNat
theorem uN_lt (x : Int64) : uN x < 18446744073709551616 := x.toUInt64.toNat_lt
theorem uN_inj {x y : Int64} (h : uN x = uN y) : x = y := congrArg UInt64.toInt64 (UInt64.toNat_inj.mp h)
theorem uN_shr (x : Int64) (s : UInt64) : uN (x.toUInt64 >>> s).toInt64 = uN x / 2 ^ (s.toNat % 64) := by
  show (x.toUInt64 >>> s).toNat = _
  rw [UInt64.toNat_shiftRight, Nat.shiftRight_eq_div_pow]
  rfl
theorem uN_sk (x : Int64) {k : Nat} (hk : k < 64) : uN (x.toUInt64 >>> ((nI k).toInt64.toUInt64 &&& Int64.toUInt64 63)).toInt64 = uN x / 2 ^ k := by
  have h : ((nI k).toInt64.toUInt64 &&& Int64.toUInt64 63).toNat % 64 = k := by
    rw [nI_l (by omega), UInt64.toNat_and]
    have e : (lN k).toUInt64.toNat = k % 2 ^ 64 := rfl
    have e2 : (Int64.toUInt64 63).toNat = 2 ^ 6 - 1 := by decide
    rw [e, e2, Nat.and_two_pow_sub_one_eq_mod]
    omega
  rw [uN_shr, h]
theorem al_s {p : Nat → Bool} {j : Nat} (h1 : al p j = true) (h2 : p j = true) : al p (j + 1) = true := by rw [al, h1, h2]; rfl
theorem ct_t {p : Nat → Bool} {j : Nat} (h : p j = true) : ct p (j + 1) = ct p j + 1 := by rw [ct, if_pos h]
theorem ct_f {p : Nat → Bool} {j : Nat} (h : p j = false) : ct p (j + 1) = ct p j := by rw [ct, if_neg (by rw [h]; decide)]; rfl
theorem nd_t {x y : Int64} (h : x = y) : (!decide (x = y)) = false := by rw [decide_eq_true h]; rfl
theorem nd_f {x y : Int64} (h : ¬ x = y) : (!decide (x = y)) = true := by rw [decide_eq_false h]; rfl
/-- q lists the rows below r for which P holds, by rising numbers -/
def En (q : Nat → Nat) (P : Nat → Bool) (r : Nat) : Prop := ∀ t, t < r → P t = true → q (ct P t) = t
theorem en_0 (q : Nat → Nat) (P : Nat → Bool) : En q P 0 := fun t h => by omega
theorem en_t {q : Nat → Nat} {P : Nat → Bool} {r : Nat} (h : En q P r) (hP : P r = true) : En (fS q (ct P r) r) P (r + 1) := by
  intro t ht hPt
  rcases Nat.lt_succ_iff_lt_or_eq.mp ht with h1 | h1
  · have h2 := ct_mono P (show t + 1 ≤ r by omega)
    rw [ct_t hPt] at h2
    rw [fS_n (by omega)]
    exact h t h1 hPt
  · subst h1; exact fS_s
theorem en_f {q : Nat → Nat} {P : Nat → Bool} {r : Nat} (h : En q P r) (hP : P r = false) : En q P (r + 1) := by
  intro t ht hPt
  rcases Nat.lt_succ_iff_lt_or_eq.mp ht with h1 | h1
  · exact h t h1 hPt
  · subst h1; rw [hP] at hPt; cases hPt
theorem en_none {q : Nat → Nat} {P : Nat → Bool} {a b : Nat} (h : En q P a) (hn : ∀ j, a ≤ j → j < b → P j = false) : En q P b := by
  intro t ht hPt
  by_cases h1 : t < a
  · exact h t h1 hPt
  · rw [hn t (by omega) ht] at hPt; cases hPt
/-- the conditions are such; the full blocks' least and greatest bound their cells -/
def iK (kc ko : Nat → Nat) (k : Nat) : Prop := k ≤ 3 ∧ (∀ j, kc j < 4) ∧ (∀ j, ko j < 6)
def iB (T : Nat → Nat → Int64) (n : Nat) (lo hi : Nat → Int64) : Prop := ∀ b c j, b < n / 16 → c < 4 → j < 16 → ¬ T (16 * b + j) c < lo (b * 4 + c) ∧ ¬ hi (b * 4 + c) < T (16 * b + j) c
/-- block b is passed over -/
def po (n : Nat) (kc ko : Nat → Nat) (kv : Nat → Int64) (k : Nat) (lo hi : Nat → Int64) (b : Nat) : Bool := decide (b < n / 16) && !al (fun i => cH (ko i) (kv i) (lo (b * 4 + kc i)) (hi (b * 4 + kc i))) k
theorem po_ge {n : Nat} {kc ko : Nat → Nat} {kv : Nat → Int64} {k : Nat} {lo hi : Nat → Int64} {b : Nat} (h : n / 16 ≤ b) : po n kc ko kv k lo hi b = false := by
  rw [po, decide_eq_false (by omega)]; rfl
theorem po_lt {n : Nat} {kc ko : Nat → Nat} {kv : Nat → Int64} {k : Nat} {lo hi : Nat → Int64} {b : Nat} (h : b < n / 16) : po n kc ko kv k lo hi b = !al (fun i => cH (ko i) (kv i) (lo (b * 4 + kc i)) (hi (b * 4 + kc i))) k := by
  rw [po, decide_eq_true h]; rfl
theorem cH_wide {op : Nat} {v x lo hi : Int64} (h1 : ¬ x < lo) (h2 : ¬ hi < x) (h : hO op x v = true) : cH op v lo hi = true := by
  rw [Int64.lt_iff_toInt_lt] at h1 h2
  unfold hO at h
  unfold cH
  by_cases h0 : op = 0
  · simp only [h0, if_true, decide_eq_true_eq, Int64.lt_iff_toInt_lt] at h ⊢; omega
  by_cases h3 : op = 1
  · simp [h3, Int64.le_iff_toInt_le] at h ⊢; omega
  by_cases h4 : op = 2
  · simp [h4, Int64.le_iff_toInt_le] at h ⊢; subst h; omega
  by_cases h5 : op = 3
  · simp [h5, Int64.le_iff_toInt_le] at h ⊢; omega
  by_cases h6 : op = 4
  · simp [h6, Int64.lt_iff_toInt_lt] at h ⊢; omega
  · simp [h0, h3, h4, h5, h6] at h ⊢
    by_cases e : lo = v
    · right
      intro e2
      subst e; subst e2
      exact h (Int64.toInt_inj.mp (by omega))
    · exact Or.inl e
/-- a block that is passed over has no chosen row -/
theorem po_none {T : Nat → Nat → Int64} {n : Nat} {kc ko : Nat → Nat} {kv : Nat → Int64} {k : Nat} {lo hi : Nat → Int64} {b : Nat} (hB : iB T n lo hi) (hkc : ∀ j, kc j < 4) (h : po n kc ko kv k lo hi b = true) : ∀ j, b * 16 ≤ j → j < b * 16 + 16 → ch T kc ko kv k j = false := by
  intro j h1 h2
  unfold po at h
  rw [Bool.and_eq_true, Bool.not_eq_true'] at h
  obtain ⟨hb, ha⟩ := h
  have hb := of_decide_eq_true hb
  cases e : ch T kc ko kv k j
  · rfl
  · exfalso
    have hall : al (fun i => cH (ko i) (kv i) (lo (b * 4 + kc i)) (hi (b * 4 + kc i))) k = true := by
      rw [al_iff]
      intro i hi
      have e1 := (al_iff (p := fun i => hO (ko i) (T j (kc i)) (kv i))).mp e i hi
      have e2 := hB b (kc i) (j - b * 16) hb (hkc i) (by omega)
      rw [show 16 * b + (j - b * 16) = j by omega] at e2
      exact cH_wide e2.1 e2.2 e1
    rw [hall] at ha
    cases ha
theorem po_full {n : Nat} {kc ko : Nat → Nat} {kv : Nat → Int64} {k : Nat} {lo hi : Nat → Int64} {b : Nat} (h : po n kc ko kv k lo hi b = true) : b < n / 16 := by
  unfold po at h
  rw [Bool.and_eq_true] at h
  exact of_decide_eq_true h.1
/-- how many binary figures -/
def wN (m : Nat) : Nat := if m = 0 then 0 else Nat.log2 m + 1
def wd (x : Int64) : Nat := wN (uN x)
theorem wN_le {m w : Nat} : wN m ≤ w ↔ m < 2 ^ w := by
  unfold wN
  by_cases h : m = 0
  · subst h; simp [Nat.two_pow_pos]
  · rw [if_neg h, Nat.succ_le_iff, Nat.log2_lt h]
theorem wd_le64 (x : Int64) : wd x ≤ 64 := wN_le.mpr (uN_lt x)
theorem wd_sh (x : Int64) {w : Nat} (hw : w < 64) : (x.toUInt64 >>> ((nI w).toInt64.toUInt64 &&& Int64.toUInt64 63)).toInt64 = 0 ↔ wd x ≤ w := by
  rw [wd, wN_le]
  constructor
  · intro h
    have h1 := uN_sk x hw
    rw [h] at h1
    have h2 : uN 0 = 0 := rfl
    rw [h2] at h1
    exact Nat.lt_of_div_eq_zero (Nat.two_pow_pos w) h1.symm
  · intro h
    apply uN_inj
    rw [uN_sk x hw, Nat.div_eq_of_lt h]
    rfl
/-- the 16 cells of a column of a block; the least, the greatest; the ways -/
def xb (T : Nat → Nat → Int64) (b c : Nat) : Nat → Int64 := fun j => T (16 * b + j) c
def mn (x : Nat → Int64) : Nat → Int64
  | 0 => x 0
  | j + 1 => if x (j + 1) < mn x j then x (j + 1) else mn x j
def mx (x : Nat → Int64) : Nat → Int64
  | 0 => x 0
  | j + 1 => if x (j + 1) < mx x j then mx x j else x (j + 1)
def sb (x : Nat → Int64) (a : Nat) : Bool := !al (fun i => !decide (x i = x a)) a
def wds (x : Nat → Int64) : Nat := ct (fun j => !sb x j) 16
def rns (x : Nat → Int64) : Nat := 1 + ct (fun j => !decide (x (j + 1) = x j)) 15
def cb (c : Nat) : Nat := if c = 3 then 64 else 32
def stp (a : Nat × Nat) (w z : Nat) : Nat × Nat := if z < a.2 then (w, z) else a
def zR (x : Nat → Int64) (cb : Nat) : Nat := rns x * (cb + 5)
def zW (x : Nat → Int64) (cb : Nat) : Nat := wds x * cb + 16 * wd (lN (wds x - 1))
def zO (x : Nat → Int64) (cb : Nat) : Nat := cb + 7 + 16 * wd (mx x 15 - mn x 15)
def pck (x : Nat → Int64) (cb : Nat) : Nat × Nat := stp (stp (stp (0, 16 * cb) 1 (zR x cb)) 2 (zW x cb)) 3 (zO x cb)
theorem fS_fS {α : Type} (f : Nat → α) (p : Nat) (a b : α) : fS (fS f p a) p b = fS f p b := by
  funext j
  by_cases h : j = p <;> simp [fS, h]
theorem rns_le (x : Nat → Int64) : rns x ≤ 16 := by have := ct_le (fun j => !decide (x (j + 1) = x j)) 15; unfold rns; omega
theorem wds_le (x : Nat → Int64) : wds x ≤ 16 := ct_le _ 16
theorem wds_pos (x : Nat → Int64) : 1 ≤ wds x := by
  have h1 : ct (fun j => !sb x j) 1 = 1 := rfl
  have h2 := ct_mono (fun j => !sb x j) (show 1 ≤ 16 by omega)
  rw [h1] at h2
  exact h2
theorem cb_le (c : Nat) : cb c ≤ 64 := by unfold cb; split <;> omega
theorem zR_le (x : Nat → Int64) (c : Nat) : zR x (cb c) ≤ 16 * 69 := Nat.mul_le_mul (rns_le x) (by have := cb_le c; omega)
theorem zW_le (x : Nat → Int64) (c : Nat) : zW x (cb c) ≤ 16 * 64 + 16 * 64 := by
  have h1 := Nat.mul_le_mul (wds_le x) (cb_le c)
  have h2 := wd_le64 (lN (wds x - 1))
  unfold zW
  omega
theorem zO_le (x : Nat → Int64) (c : Nat) : zO x (cb c) ≤ 71 + 16 * 64 := by
  have h1 := cb_le c
  have h2 := wd_le64 (mx x 15 - mn x 15)
  unfold zO
  omega
theorem stp_le {a : Nat × Nat} {w z M : Nat} (h : a.2 ≤ M) : (stp a w z).2 ≤ M := by
  unfold stp
  split
  · show z ≤ M; omega
  · exact h
/-- what is known of column c of block b -/
def Pk (T : Nat → Nat → Int64) (b c : Nat) (lo hi : Nat → Int64) (bw bb : Nat → Nat) : Prop := lo (b * 4 + c) = mn (xb T b c) 15 ∧ hi (b * 4 + c) = mx (xb T b c) 15 ∧ bw (b * 4 + c) = (pck (xb T b c) (cb c)).1 ∧ bb (b * 4 + c) = (pck (xb T b c) (cb c)).2
theorem mn_le (x : Nat → Int64) {d j : Nat} (h : j ≤ d) : ¬ x j < mn x d := by
  induction d with
  | zero => rw [Nat.le_zero.mp h]; exact Int64.lt_irrefl
  | succ d ih =>
    rw [mn]
    rcases Nat.lt_succ_iff_lt_or_eq.mp (Nat.lt_succ_of_le h) with h1 | h1
    · have h2 := ih (by omega)
      split
      · intro h3
        exact h2 (Int64.lt_trans h3 (by assumption))
      · exact h2
    · subst h1
      split
      · exact Int64.lt_irrefl
      · assumption
theorem mx_ge (x : Nat → Int64) {d j : Nat} (h : j ≤ d) : ¬ mx x d < x j := by
  induction d with
  | zero => rw [Nat.le_zero.mp h]; exact Int64.lt_irrefl
  | succ d ih =>
    rw [mx]
    rcases Nat.lt_succ_iff_lt_or_eq.mp (Nat.lt_succ_of_le h) with h1 | h1
    · have h2 := ih (by omega)
      split
      · exact h2
      · rename_i h4
        intro h3
        rw [Int64.not_lt] at h4 h2
        exact Int64.lt_irrefl (Int64.lt_of_lt_of_le h3 (Int64.le_trans h2 h4))
    · subst h1
      split
      · rename_i h4
        exact Int64.lt_asymm h4
      · exact Int64.lt_irrefl
theorem iB_of {T : Nat → Nat → Int64} {n : Nat} {lo hi : Nat → Int64} {bw bb : Nat → Nat} (h : ∀ b c, b < n / 16 → c < 4 → Pk T b c lo hi bw bb) : iB T n lo hi := by
  intro b c j hb hc hj
  obtain ⟨h1, h2, -⟩ := h b c hb hc
  rw [h1, h2]
  exact ⟨mn_le (xb T b c) (show j ≤ 15 by omega), mx_ge (xb T b c) (show j ≤ 15 by omega)⟩
theorem nI_min {a b : Nat} (ha : a < 2 ^ 31) (hb : b < 2 ^ 31) : (if nI b < nI a then nI b else nI a) = nI (min a b) := by
  by_cases h : b < a
  · rw [if_pos ((nI_ltI hb ha).mpr h), Nat.min_eq_right (by omega)]
  · rw [if_neg (fun q => h ((nI_ltI hb ha).mp q)), Nat.min_eq_left (by omega)]
theorem o6 {o : Nat} (h : o < 6) : o = 0 ∨ o = 1 ∨ o = 2 ∨ o = 3 ∨ o = 4 ∨ o = 5 := by omega
theorem qk_s {T : Nat → Nat → Int64} {b c : Nat} {lo hi : Nat → Int64} {bw bb : Nat → Nat} (h : ∀ d, d < c → Pk T b d lo hi bw bb) : ∀ d, d < c + 1 → Pk T b d (fS lo (b * 4 + c) (mn (xb T b c) 15)) (fS hi (b * 4 + c) (mx (xb T b c) 15)) (fS bw (b * 4 + c) (pck (xb T b c) (cb c)).1) (fS bb (b * 4 + c) (pck (xb T b c) (cb c)).2) := by
  intro d hd
  rcases Nat.lt_succ_iff_lt_or_eq.mp hd with h1 | h1
  · obtain ⟨e1, e2, e3, e4⟩ := h d h1
    have hne : b * 4 + d ≠ b * 4 + c := by omega
    exact ⟨by rw [fS_n hne]; exact e1, by rw [fS_n hne]; exact e2, by rw [fS_n hne]; exact e3, by rw [fS_n hne]; exact e4⟩
  · subst h1
    exact ⟨fS_s, fS_s, fS_s, fS_s⟩
theorem qu_s {lo lo' hi hi' : Nat → Int64} {bw bw' bb bb' : Nat → Nat} {i p w z : Nat} {x y : Int64} (h : lo' i = lo i ∧ hi' i = hi i ∧ bw' i = bw i ∧ bb' i = bb i) (hp : i ≠ p) : fS lo' p x i = lo i ∧ fS hi' p y i = hi i ∧ fS bw' p w i = bw i ∧ fS bb' p z i = bb i :=
  ⟨by rw [fS_n hp]; exact h.1, by rw [fS_n hp]; exact h.2.1, by rw [fS_n hp]; exact h.2.2.1, by rw [fS_n hp]; exact h.2.2.2⟩
theorem qk_b {T : Nat → Nat → Int64} {b : Nat} {lo hi lo' hi' : Nat → Int64} {bw bb bw' bb' : Nat → Nat} (h : ∀ a c, a < b → c < 4 → Pk T a c lo hi bw bb) (h1 : ∀ c, c < 4 → Pk T b c lo' hi' bw' bb') (h2 : ∀ i, (i < b * 4 ∨ b * 4 + 4 ≤ i) → lo' i = lo i ∧ hi' i = hi i ∧ bw' i = bw i ∧ bb' i = bb i) : ∀ a c, a < b + 1 → c < 4 → Pk T a c lo' hi' bw' bb' := by
  intro a c ha hc
  rcases Nat.lt_succ_iff_lt_or_eq.mp ha with h3 | h3
  · obtain ⟨e1, e2, e3, e4⟩ := h a c h3 hc
    obtain ⟨f1, f2, f3, f4⟩ := h2 (a * 4 + c) (by omega)
    exact ⟨f1.trans e1, f2.trans e2, f3.trans e3, f4.trans e4⟩
  · subst h3
    exact h1 c hc
/-- a row moved -/
def mvR (T : Nat → Nat → Int64) (a b d : Nat) : Nat → Nat → Int64 := fun i j => if i = b ∧ j < d then T a j else T i j
theorem mvR_0 (T : Nat → Nat → Int64) (a b : Nat) : mvR T a b 0 = T := by
  funext i j
  simp [mvR]
theorem mvR_s (T : Nat → Nat → Int64) (a b d : Nat) : tS (mvR T a b d) b d (mvR T a b d a d) = mvR T a b (d + 1) := by
  have e : mvR T a b d a d = T a d := by simp [mvR]
  rw [e]
  funext i j
  by_cases h1 : i = b
  · subst h1
    by_cases h2 : j = d
    · subst h2; simp [tS, mvR]
    · by_cases h3 : j < d
      · simp [tS, mvR, h2, h3, Nat.lt_succ_of_lt h3]
      · simp [tS, mvR, h2, h3, show ¬ j < d + 1 by omega]
  · simp [tS, mvR, h1]
end PU1
end
section
/-! What the tables say, of fields and of calls. -/
set_option maxRecDepth 100000 in
theorem inX : ∀ w ∈ u_ws RX0 TX0 11, w ∈ tG := fun w h => tG_in ((show ∀ w ∈ u_ws RX0 TX0 11, w ∈ lw_tbl by decide +kernel) w h) (List.all_eq_true.mp (show (u_ws RX0 TX0 11).all goodWord = true by decide +kernel) w h)
set_option maxRecDepth 100000 in
theorem flX_9 : Cond.fieldLink RX0 9 RX0 (TX0 0).2.1 (TX0 0).2.2.1 ∈ tG := tG_in (List.mem_of_getElem? (i := 52) (by decide +kernel)) (by decide +kernel)
set_option maxRecDepth 100000 in
theorem flX_13 : Cond.fieldLink RX0 13 RX0 (TX0 1).2.1 (TX0 1).2.2.1 ∈ tG := tG_in (List.mem_of_getElem? (i := 53) (by decide +kernel)) (by decide +kernel)
set_option maxRecDepth 100000 in
theorem flX_17 : Cond.fieldLink RX0 17 RX0 (TX0 2).2.1 (TX0 2).2.2.1 ∈ tG := tG_in (List.mem_of_getElem? (i := 54) (by decide +kernel)) (by decide +kernel)
set_option maxRecDepth 100000 in
theorem flX_21 : Cond.fieldLink RX0 21 RX0 (TX0 3).2.1 (TX0 3).2.2.1 ∈ tG := tG_in (List.mem_of_getElem? (i := 55) (by decide +kernel)) (by decide +kernel)
set_option maxRecDepth 100000 in
theorem flX_24 : Cond.fieldLink RX0 24 RX0 (TX0 4).2.1 (TX0 4).2.2.1 ∈ tG := tG_in (List.mem_of_getElem? (i := 56) (by decide +kernel)) (by decide +kernel)
set_option maxRecDepth 100000 in
theorem flX_27 : Cond.fieldLink RX0 27 RX0 (TX0 5).2.1 (TX0 5).2.2.1 ∈ tG := tG_in (List.mem_of_getElem? (i := 57) (by decide +kernel)) (by decide +kernel)
set_option maxRecDepth 100000 in
theorem flX_30 : Cond.fieldLink RX0 30 RX0 (TX0 6).2.1 (TX0 6).2.2.1 ∈ tG := tG_in (List.mem_of_getElem? (i := 58) (by decide +kernel)) (by decide +kernel)
set_option maxRecDepth 100000 in
theorem flX_33 : Cond.fieldLink RX0 33 RX0 (TX0 7).2.1 (TX0 7).2.2.1 ∈ tG := tG_in (List.mem_of_getElem? (i := 59) (by decide +kernel)) (by decide +kernel)
set_option maxRecDepth 100000 in
theorem flX_36 : Cond.fieldLink RX0 36 RX0 (TX0 8).2.1 (TX0 8).2.2.1 ∈ tG := tG_in (List.mem_of_getElem? (i := 60) (by decide +kernel)) (by decide +kernel)
set_option maxRecDepth 100000 in
theorem flX_39 : Cond.fieldLink RX0 39 RX0 (TX0 9).2.1 (TX0 9).2.2.1 ∈ tG := tG_in (List.mem_of_getElem? (i := 61) (by decide +kernel)) (by decide +kernel)
set_option maxRecDepth 100000 in
theorem flX_42 : Cond.fieldLink RX0 42 RX0 (TX0 10).2.1 (TX0 10).2.2.1 ∈ tG := tG_in (List.mem_of_getElem? (i := 62) (by decide +kernel)) (by decide +kernel)
set_option maxRecDepth 100000 in
theorem kX_52 : kS RX0 52 yX0_spot cX0_spot 2 (some .int) 2 := ⟨⟨tG_in (List.mem_of_getElem? (i := 133) (by decide +kernel)) (by decide +kernel), tG_in (List.mem_of_getElem? (i := 135) (by decide +kernel)) (by decide +kernel), tG_in (List.mem_of_getElem? (i := 34) (by decide +kernel)) (by decide +kernel), by decide +kernel, by decide +kernel, by decide +kernel⟩, tG_in (List.mem_of_getElem? (i := 134) (by decide +kernel)) (by decide +kernel)⟩
set_option maxRecDepth 100000 in
theorem kX_56 : kV RX0 56 yX0_packBlock cX0_packBlock 3 none 1 := ⟨⟨tG_in (List.mem_of_getElem? (i := 152) (by decide +kernel)) (by decide +kernel), tG_in (List.mem_of_getElem? (i := 155) (by decide +kernel)) (by decide +kernel), tG_in (List.mem_of_getElem? (i := 34) (by decide +kernel)) (by decide +kernel), by decide +kernel, by decide +kernel, by decide +kernel⟩, tG_in (List.mem_of_getElem? (i := 154) (by decide +kernel)) (by decide +kernel), tG_in (List.mem_of_getElem? (i := 8) (by decide +kernel)) (by decide +kernel)⟩
set_option maxRecDepth 100000 in
theorem kX_60 : kS RX0 60 yX0_refuseBadColumn cX0_refuseBadColumn 1 none 1 := ⟨⟨tG_in (List.mem_of_getElem? (i := 275) (by decide +kernel)) (by decide +kernel), tG_in (List.mem_of_getElem? (i := 277) (by decide +kernel)) (by decide +kernel), tG_in (List.mem_of_getElem? (i := 34) (by decide +kernel)) (by decide +kernel), by decide +kernel, by decide +kernel, by decide +kernel⟩, tG_in (List.mem_of_getElem? (i := 276) (by decide +kernel)) (by decide +kernel)⟩
set_option maxRecDepth 100000 in
theorem kX_75 : kV RX0 75 yX0_pick cX0_pick 3 (some .int) 0 := ⟨⟨tG_in (List.mem_of_getElem? (i := 100) (by decide +kernel)) (by decide +kernel), tG_in (List.mem_of_getElem? (i := 103) (by decide +kernel)) (by decide +kernel), tG_in (List.mem_of_getElem? (i := 34) (by decide +kernel)) (by decide +kernel), by decide +kernel, by decide +kernel, by decide +kernel⟩, tG_in (List.mem_of_getElem? (i := 102) (by decide +kernel)) (by decide +kernel), tG_in (List.mem_of_getElem? (i := 0) (by decide +kernel)) (by decide +kernel)⟩
set_option maxRecDepth 100000 in
theorem kX_81 : kV RX0 81 yX0_startedBlocks cX0_startedBlocks 1 (some .int) 0 := ⟨⟨tG_in (List.mem_of_getElem? (i := 104) (by decide +kernel)) (by decide +kernel), tG_in (List.mem_of_getElem? (i := 107) (by decide +kernel)) (by decide +kernel), tG_in (List.mem_of_getElem? (i := 34) (by decide +kernel)) (by decide +kernel), by decide +kernel, by decide +kernel, by decide +kernel⟩, tG_in (List.mem_of_getElem? (i := 106) (by decide +kernel)) (by decide +kernel), tG_in (List.mem_of_getElem? (i := 1) (by decide +kernel)) (by decide +kernel)⟩
set_option maxRecDepth 100000 in
theorem kX_84 : kV RX0 84 yX0_isPassedOver cX0_isPassedOver 4 (some .boolean) 1 := ⟨⟨tG_in (List.mem_of_getElem? (i := 108) (by decide +kernel)) (by decide +kernel), tG_in (List.mem_of_getElem? (i := 111) (by decide +kernel)) (by decide +kernel), tG_in (List.mem_of_getElem? (i := 34) (by decide +kernel)) (by decide +kernel), by decide +kernel, by decide +kernel, by decide +kernel⟩, tG_in (List.mem_of_getElem? (i := 110) (by decide +kernel)) (by decide +kernel), tG_in (List.mem_of_getElem? (i := 2) (by decide +kernel)) (by decide +kernel)⟩
set_option maxRecDepth 100000 in
theorem kX_88 : kV RX0 88 yX0_sumOfPicked cX0_sumOfPicked 7 (some .long) 3 := ⟨⟨tG_in (List.mem_of_getElem? (i := 334) (by decide +kernel)) (by decide +kernel), tG_in (List.mem_of_getElem? (i := 337) (by decide +kernel)) (by decide +kernel), tG_in (List.mem_of_getElem? (i := 34) (by decide +kernel)) (by decide +kernel), by decide +kernel, by decide +kernel, by decide +kernel⟩, tG_in (List.mem_of_getElem? (i := 336) (by decide +kernel)) (by decide +kernel), tG_in (List.mem_of_getElem? (i := 16) (by decide +kernel)) (by decide +kernel)⟩
set_option maxRecDepth 100000 in
theorem kX_97 : kV RX0 97 yX0_boundOfPicked cX0_boundOfPicked 10 (some .long) 4 := ⟨⟨tG_in (List.mem_of_getElem? (i := 362) (by decide +kernel)) (by decide +kernel), tG_in (List.mem_of_getElem? (i := 365) (by decide +kernel)) (by decide +kernel), tG_in (List.mem_of_getElem? (i := 34) (by decide +kernel)) (by decide +kernel), by decide +kernel, by decide +kernel, by decide +kernel⟩, tG_in (List.mem_of_getElem? (i := 364) (by decide +kernel)) (by decide +kernel), tG_in (List.mem_of_getElem? (i := 17) (by decide +kernel)) (by decide +kernel)⟩
set_option maxRecDepth 100000 in
theorem kX_101 : kV RX0 101 yX0_sortPicked cX0_sortPicked 9 none 3 := ⟨⟨tG_in (List.mem_of_getElem? (i := 373) (by decide +kernel)) (by decide +kernel), tG_in (List.mem_of_getElem? (i := 376) (by decide +kernel)) (by decide +kernel), tG_in (List.mem_of_getElem? (i := 34) (by decide +kernel)) (by decide +kernel), by decide +kernel, by decide +kernel, by decide +kernel⟩, tG_in (List.mem_of_getElem? (i := 375) (by decide +kernel)) (by decide +kernel), tG_in (List.mem_of_getElem? (i := 18) (by decide +kernel)) (by decide +kernel)⟩
set_option maxRecDepth 100000 in
theorem kX_105 : kV RX0 105 yX0_startsGroup cX0_startsGroup 3 (some .boolean) 2 := ⟨⟨tG_in (List.mem_of_getElem? (i := 387) (by decide +kernel)) (by decide +kernel), tG_in (List.mem_of_getElem? (i := 390) (by decide +kernel)) (by decide +kernel), tG_in (List.mem_of_getElem? (i := 34) (by decide +kernel)) (by decide +kernel), by decide +kernel, by decide +kernel, by decide +kernel⟩, tG_in (List.mem_of_getElem? (i := 389) (by decide +kernel)) (by decide +kernel), tG_in (List.mem_of_getElem? (i := 19) (by decide +kernel)) (by decide +kernel)⟩
set_option maxRecDepth 100000 in
theorem kX_111 : kV RX0 111 yX0_groupStart cX0_groupStart 6 (some .int) 3 := ⟨⟨tG_in (List.mem_of_getElem? (i := 399) (by decide +kernel)) (by decide +kernel), tG_in (List.mem_of_getElem? (i := 402) (by decide +kernel)) (by decide +kernel), tG_in (List.mem_of_getElem? (i := 34) (by decide +kernel)) (by decide +kernel), by decide +kernel, by decide +kernel, by decide +kernel⟩, tG_in (List.mem_of_getElem? (i := 401) (by decide +kernel)) (by decide +kernel), tG_in (List.mem_of_getElem? (i := 20) (by decide +kernel)) (by decide +kernel)⟩
set_option maxRecDepth 100000 in
theorem kX_117 : kV RX0 117 yX0_groupEnd cX0_groupEnd 5 (some .int) 3 := ⟨⟨tG_in (List.mem_of_getElem? (i := 404) (by decide +kernel)) (by decide +kernel), tG_in (List.mem_of_getElem? (i := 407) (by decide +kernel)) (by decide +kernel), tG_in (List.mem_of_getElem? (i := 34) (by decide +kernel)) (by decide +kernel), by decide +kernel, by decide +kernel, by decide +kernel⟩, tG_in (List.mem_of_getElem? (i := 406) (by decide +kernel)) (by decide +kernel), tG_in (List.mem_of_getElem? (i := 21) (by decide +kernel)) (by decide +kernel)⟩
set_option maxRecDepth 100000 in
theorem kX_120 : kV RX0 120 yX0_refuseUnpackedBlock cX0_refuseUnpackedBlock 2 none 1 := ⟨⟨tG_in (List.mem_of_getElem? (i := 422) (by decide +kernel)) (by decide +kernel), tG_in (List.mem_of_getElem? (i := 425) (by decide +kernel)) (by decide +kernel), tG_in (List.mem_of_getElem? (i := 34) (by decide +kernel)) (by decide +kernel), by decide +kernel, by decide +kernel, by decide +kernel⟩, tG_in (List.mem_of_getElem? (i := 424) (by decide +kernel)) (by decide +kernel), tG_in (List.mem_of_getElem? (i := 22) (by decide +kernel)) (by decide +kernel)⟩
set_option maxRecDepth 100000 in
theorem kX_123 : kS RX0 123 yX0_place cX0_place 2 (some .int) 2 := ⟨⟨tG_in (List.mem_of_getElem? (i := 116) (by decide +kernel)) (by decide +kernel), tG_in (List.mem_of_getElem? (i := 118) (by decide +kernel)) (by decide +kernel), tG_in (List.mem_of_getElem? (i := 34) (by decide +kernel)) (by decide +kernel), by decide +kernel, by decide +kernel, by decide +kernel⟩, tG_in (List.mem_of_getElem? (i := 117) (by decide +kernel)) (by decide +kernel)⟩
set_option maxRecDepth 100000 in
theorem kX_126 : kV RX0 126 yX0_moveRow cX0_moveRow 4 none 2 := ⟨⟨tG_in (List.mem_of_getElem? (i := 144) (by decide +kernel)) (by decide +kernel), tG_in (List.mem_of_getElem? (i := 147) (by decide +kernel)) (by decide +kernel), tG_in (List.mem_of_getElem? (i := 34) (by decide +kernel)) (by decide +kernel), by decide +kernel, by decide +kernel, by decide +kernel⟩, tG_in (List.mem_of_getElem? (i := 146) (by decide +kernel)) (by decide +kernel), tG_in (List.mem_of_getElem? (i := 6) (by decide +kernel)) (by decide +kernel)⟩
set_option maxRecDepth 100000 in
theorem kX_130 : kV RX0 130 yX0_packFullBlocks cX0_packFullBlocks 2 none 0 := ⟨⟨tG_in (List.mem_of_getElem? (i := 148) (by decide +kernel)) (by decide +kernel), tG_in (List.mem_of_getElem? (i := 151) (by decide +kernel)) (by decide +kernel), tG_in (List.mem_of_getElem? (i := 34) (by decide +kernel)) (by decide +kernel), by decide +kernel, by decide +kernel, by decide +kernel⟩, tG_in (List.mem_of_getElem? (i := 150) (by decide +kernel)) (by decide +kernel), tG_in (List.mem_of_getElem? (i := 7) (by decide +kernel)) (by decide +kernel)⟩
set_option maxRecDepth 100000 in
theorem kX_135 : kV RX0 135 yX0_fullBlocks cX0_fullBlocks 1 (some .int) 0 := ⟨⟨tG_in (List.mem_of_getElem? (i := 112) (by decide +kernel)) (by decide +kernel), tG_in (List.mem_of_getElem? (i := 115) (by decide +kernel)) (by decide +kernel), tG_in (List.mem_of_getElem? (i := 34) (by decide +kernel)) (by decide +kernel), by decide +kernel, by decide +kernel, by decide +kernel⟩, tG_in (List.mem_of_getElem? (i := 114) (by decide +kernel)) (by decide +kernel), tG_in (List.mem_of_getElem? (i := 3) (by decide +kernel)) (by decide +kernel)⟩
set_option maxRecDepth 100000 in
theorem kX_140 : kV RX0 140 yX0_pickFromBlock cX0_pickFromBlock 6 (some .int) 2 := ⟨⟨tG_in (List.mem_of_getElem? (i := 122) (by decide +kernel)) (by decide +kernel), tG_in (List.mem_of_getElem? (i := 125) (by decide +kernel)) (by decide +kernel), tG_in (List.mem_of_getElem? (i := 34) (by decide +kernel)) (by decide +kernel), by decide +kernel, by decide +kernel, by decide +kernel⟩, tG_in (List.mem_of_getElem? (i := 124) (by decide +kernel)) (by decide +kernel), tG_in (List.mem_of_getElem? (i := 4) (by decide +kernel)) (by decide +kernel)⟩
set_option maxRecDepth 100000 in
theorem kX_148 : kV RX0 148 yX0_isChosen cX0_isChosen 5 (some .boolean) 1 := ⟨⟨tG_in (List.mem_of_getElem? (i := 129) (by decide +kernel)) (by decide +kernel), tG_in (List.mem_of_getElem? (i := 132) (by decide +kernel)) (by decide +kernel), tG_in (List.mem_of_getElem? (i := 34) (by decide +kernel)) (by decide +kernel), by decide +kernel, by decide +kernel, by decide +kernel⟩, tG_in (List.mem_of_getElem? (i := 131) (by decide +kernel)) (by decide +kernel), tG_in (List.mem_of_getElem? (i := 5) (by decide +kernel)) (by decide +kernel)⟩
set_option maxRecDepth 100000 in
theorem kX_151 : kS RX0 151 yX0_couldHold cX0_couldHold 7 (some .boolean) 4 := ⟨⟨tG_in (List.mem_of_getElem? (i := 119) (by decide +kernel)) (by decide +kernel), tG_in (List.mem_of_getElem? (i := 121) (by decide +kernel)) (by decide +kernel), tG_in (List.mem_of_getElem? (i := 34) (by decide +kernel)) (by decide +kernel), by decide +kernel, by decide +kernel, by decide +kernel⟩, tG_in (List.mem_of_getElem? (i := 120) (by decide +kernel)) (by decide +kernel)⟩
set_option maxRecDepth 100000 in
theorem kX_155 : kS RX0 155 yX0_comesBefore cX0_comesBefore 5 (some .boolean) 3 := ⟨⟨tG_in (List.mem_of_getElem? (i := 377) (by decide +kernel)) (by decide +kernel), tG_in (List.mem_of_getElem? (i := 379) (by decide +kernel)) (by decide +kernel), tG_in (List.mem_of_getElem? (i := 34) (by decide +kernel)) (by decide +kernel), by decide +kernel, by decide +kernel, by decide +kernel⟩, tG_in (List.mem_of_getElem? (i := 378) (by decide +kernel)) (by decide +kernel)⟩
set_option maxRecDepth 100000 in
theorem kX_159 : kV RX0 159 yX0_packColumn cX0_packColumn 8 none 2 := ⟨⟨tG_in (List.mem_of_getElem? (i := 156) (by decide +kernel)) (by decide +kernel), tG_in (List.mem_of_getElem? (i := 159) (by decide +kernel)) (by decide +kernel), tG_in (List.mem_of_getElem? (i := 34) (by decide +kernel)) (by decide +kernel), by decide +kernel, by decide +kernel, by decide +kernel⟩, tG_in (List.mem_of_getElem? (i := 158) (by decide +kernel)) (by decide +kernel), tG_in (List.mem_of_getElem? (i := 9) (by decide +kernel)) (by decide +kernel)⟩
set_option maxRecDepth 100000 in
theorem kX_162 : kV RX0 162 yX0_noteBounds cX0_noteBounds 8 none 2 := ⟨⟨tG_in (List.mem_of_getElem? (i := 160) (by decide +kernel)) (by decide +kernel), tG_in (List.mem_of_getElem? (i := 163) (by decide +kernel)) (by decide +kernel), tG_in (List.mem_of_getElem? (i := 34) (by decide +kernel)) (by decide +kernel), by decide +kernel, by decide +kernel, by decide +kernel⟩, tG_in (List.mem_of_getElem? (i := 162) (by decide +kernel)) (by decide +kernel), tG_in (List.mem_of_getElem? (i := 10) (by decide +kernel)) (by decide +kernel)⟩
set_option maxRecDepth 100000 in
theorem kX_165 : kV RX0 165 yX0_differentCells cX0_differentCells 4 (some .int) 1 := ⟨⟨tG_in (List.mem_of_getElem? (i := 170) (by decide +kernel)) (by decide +kernel), tG_in (List.mem_of_getElem? (i := 173) (by decide +kernel)) (by decide +kernel), tG_in (List.mem_of_getElem? (i := 34) (by decide +kernel)) (by decide +kernel), by decide +kernel, by decide +kernel, by decide +kernel⟩, tG_in (List.mem_of_getElem? (i := 172) (by decide +kernel)) (by decide +kernel), tG_in (List.mem_of_getElem? (i := 11) (by decide +kernel)) (by decide +kernel)⟩
set_option maxRecDepth 100000 in
theorem kX_169 : kS RX0 169 yX0_widthOf cX0_widthOf 3 (some .int) 1 := ⟨⟨tG_in (List.mem_of_getElem? (i := 178) (by decide +kernel)) (by decide +kernel), tG_in (List.mem_of_getElem? (i := 180) (by decide +kernel)) (by decide +kernel), tG_in (List.mem_of_getElem? (i := 34) (by decide +kernel)) (by decide +kernel), by decide +kernel, by decide +kernel, by decide +kernel⟩, tG_in (List.mem_of_getElem? (i := 179) (by decide +kernel)) (by decide +kernel)⟩
set_option maxRecDepth 100000 in
theorem kX_173 : kV RX0 173 yX0_runsOfCells cX0_runsOfCells 4 (some .int) 1 := ⟨⟨tG_in (List.mem_of_getElem? (i := 181) (by decide +kernel)) (by decide +kernel), tG_in (List.mem_of_getElem? (i := 184) (by decide +kernel)) (by decide +kernel), tG_in (List.mem_of_getElem? (i := 34) (by decide +kernel)) (by decide +kernel), by decide +kernel, by decide +kernel, by decide +kernel⟩, tG_in (List.mem_of_getElem? (i := 183) (by decide +kernel)) (by decide +kernel), tG_in (List.mem_of_getElem? (i := 13) (by decide +kernel)) (by decide +kernel)⟩
set_option maxRecDepth 100000 in
theorem kX_176 : kV RX0 176 yX0_offerWay cX0_offerWay 4 none 3 := ⟨⟨tG_in (List.mem_of_getElem? (i := 185) (by decide +kernel)) (by decide +kernel), tG_in (List.mem_of_getElem? (i := 188) (by decide +kernel)) (by decide +kernel), tG_in (List.mem_of_getElem? (i := 34) (by decide +kernel)) (by decide +kernel), by decide +kernel, by decide +kernel, by decide +kernel⟩, tG_in (List.mem_of_getElem? (i := 187) (by decide +kernel)) (by decide +kernel), tG_in (List.mem_of_getElem? (i := 14) (by decide +kernel)) (by decide +kernel)⟩
set_option maxRecDepth 100000 in
theorem kX_186 : kV RX0 186 yX0_stoodBefore cX0_stoodBefore 4 (some .boolean) 2 := ⟨⟨tG_in (List.mem_of_getElem? (i := 174) (by decide +kernel)) (by decide +kernel), tG_in (List.mem_of_getElem? (i := 177) (by decide +kernel)) (by decide +kernel), tG_in (List.mem_of_getElem? (i := 34) (by decide +kernel)) (by decide +kernel), by decide +kernel, by decide +kernel, by decide +kernel⟩, tG_in (List.mem_of_getElem? (i := 176) (by decide +kernel)) (by decide +kernel), tG_in (List.mem_of_getElem? (i := 12) (by decide +kernel)) (by decide +kernel)⟩
set_option maxRecDepth 100000 in
theorem mt_i : Cond.initialized "java/lang/Math" ∈ tG := tG_in (List.mem_of_getElem? (i := 40) (by decide +kernel)) (by decide +kernel)
set_option maxRecDepth 100000 in
theorem mi_l : Cond.methodLink RX0 143 Lib.Math.min.name ∈ tG := tG_in (List.mem_of_getElem? (i := 126) (by decide +kernel)) (by decide +kernel)
set_option maxRecDepth 100000 in
theorem mi_s : Cond.static Lib.Math.min.name ∈ tG := tG_in (List.mem_of_getElem? (i := 127) (by decide +kernel)) (by decide +kernel)
set_option maxRecDepth 100000 in
theorem mi_c : Cond.code Lib.Math.min.name Lib.Math.min.code 2 (some .int) ∈ tG := tG_in (List.mem_of_getElem? (i := 128) (by decide +kernel)) (by decide +kernel)
set_option maxRecDepth 100000 in
theorem ml_l : Cond.methodLink RX0 180 Lib.MathLoose.min_long.x ∈ tG := tG_in (List.mem_of_getElem? (i := 164) (by decide +kernel)) (by decide +kernel)
set_option maxRecDepth 100000 in
theorem ml_s : Cond.static Lib.MathLoose.min_long.x ∈ tG := tG_in (List.mem_of_getElem? (i := 165) (by decide +kernel)) (by decide +kernel)
set_option maxRecDepth 100000 in
theorem ml_c : Cond.code Lib.MathLoose.min_long.x Lib.MathLoose.min_long.code 4 (some .long) ∈ tG := tG_in (List.mem_of_getElem? (i := 166) (by decide +kernel)) (by decide +kernel)
set_option maxRecDepth 100000 in
theorem mxl_l : Cond.methodLink RX0 183 Lib.MathLoose.max_long.x ∈ tG := tG_in (List.mem_of_getElem? (i := 167) (by decide +kernel)) (by decide +kernel)
set_option maxRecDepth 100000 in
theorem mxl_s : Cond.static Lib.MathLoose.max_long.x ∈ tG := tG_in (List.mem_of_getElem? (i := 168) (by decide +kernel)) (by decide +kernel)
set_option maxRecDepth 100000 in
theorem mxl_c : Cond.code Lib.MathLoose.max_long.x Lib.MathLoose.max_long.code 4 (some .long) ∈ tG := tG_in (List.mem_of_getElem? (i := 169) (by decide +kernel)) (by decide +kernel)
end
section
/-! Pure rows: lists of rows, sorting by insertion, ranks. -/
section PU2
theorem en_inv {q : Nat → Nat} {P : Nat → Bool} : ∀ {n : Nat}, En q P n → ∀ j, j < ct P n → q j < n ∧ P (q j) = true ∧ ct P (q j) = j
  | 0, _, j, hj => by exact absurd hj (Nat.not_lt_zero j)
  | n + 1, h, j, hj => by
    have h0 : En q P n := fun t ht => h t (by omega)
    by_cases hP : P n = true
    · rw [ct_t hP] at hj
      by_cases hj2 : j < ct P n
      · obtain ⟨a, b, c⟩ := en_inv h0 j hj2
        exact ⟨by omega, b, c⟩
      · have hj3 : j = ct P n := by omega
        have e := h n (by omega) hP
        subst hj3
        rw [e]
        exact ⟨by omega, hP, rfl⟩
    · rw [ct_f (by simpa using hP)] at hj
      obtain ⟨a, b, c⟩ := en_inv h0 j hj
      exact ⟨by omega, b, c⟩
theorem en_up {q : Nat → Nat} {P : Nat → Bool} {n : Nat} (h : En q P n) {i j : Nat} (hij : i < j) (hj : j < ct P n) : q i < q j := by
  obtain ⟨-, b1, c1⟩ := en_inv h i (by omega)
  obtain ⟨-, -, c2⟩ := en_inv h j hj
  apply Classical.byContradiction
  intro hn
  have h1 := ct_mono P (show q j ≤ q i by omega)
  omega
theorem ct_tr {q : Nat → Nat} {P : Nat → Bool} {n : Nat} (h : En q P n) (g : Nat → Bool) : ∀ {r : Nat}, r ≤ n → ct (fun t => P t && g t) r = ct (fun j => g (q j)) (ct P r)
  | 0, _ => rfl
  | r + 1, hr => by
    have ih := ct_tr h g (r := r) (by omega)
    by_cases hP : P r = true
    · have e := h r (by omega) hP
      rw [ct_t hP, ct, ct, ih, hP, e]
      rfl
    · have hP2 : P r = false := by simpa using hP
      rw [ct_f hP2, ct, ih, hP2]
      rfl
theorem sm_tr {q : Nat → Nat} {P : Nat → Bool} {n : Nat} (h : En q P n) (f : Nat → Int64) : ∀ {r : Nat}, r ≤ n → sm (fun t => if P t then f t else 0) r = sm (fun j => f (q j)) (ct P r)
  | 0, _ => rfl
  | r + 1, hr => by
    have ih := sm_tr h f (r := r) (by omega)
    by_cases hP : P r = true
    · have e := h r (by omega) hP
      rw [ct_t hP, sm, sm, ih, if_pos hP, e]
    · have hP2 : P r = false := by simpa using hP
      rw [ct_f hP2, sm, ih, if_neg hP, Int64.add_zero]
/-- which cell comes before; which row -/
def bef (d : Bool) (x y : Int64) : Bool := if d then decide (y < x) else decide (x < y)
def bfb (T : Nat → Nat → Int64) (c : Nat) (d : Bool) (a b : Nat) : Bool := bef d (T a c) (T b c) || (decide (T a c = T b c) && decide (a < b))
theorem bef_tr {d : Bool} {x y z : Int64} (h1 : bef d x y = true) (h2 : bef d y z = true) : bef d x z = true := by
  cases d
  · simp only [bef, Bool.false_eq_true, if_false, decide_eq_true_eq, Int64.lt_iff_toInt_lt] at h1 h2 ⊢; omega
  · simp only [bef, if_true, decide_eq_true_eq, Int64.lt_iff_toInt_lt] at h1 h2 ⊢; omega
theorem bef_irr (d : Bool) (x : Int64) : bef d x x = false := by cases d <;> simp [bef]
theorem bef_tri (d : Bool) (x y : Int64) : bef d x y = true ∨ x = y ∨ bef d y x = true := by
  cases d
  · simp only [bef, Bool.false_eq_true, if_false, decide_eq_true_eq, Int64.lt_iff_toInt_lt, ← Int64.toInt_inj]; omega
  · simp only [bef, if_true, decide_eq_true_eq, Int64.lt_iff_toInt_lt, ← Int64.toInt_inj]; omega
theorem bfb_iff {T : Nat → Nat → Int64} {c : Nat} {d : Bool} {a b : Nat} : bfb T c d a b = true ↔ (bef d (T a c) (T b c) = true ∨ (T a c = T b c ∧ a < b)) := by
  simp [bfb]
theorem bfb_tr {T : Nat → Nat → Int64} {c : Nat} {d : Bool} {x y z : Nat} (h1 : bfb T c d x y = true) (h2 : bfb T c d y z = true) : bfb T c d x z = true := by
  rw [bfb_iff] at h1 h2 ⊢
  rcases h1 with h1 | ⟨e1, h1⟩ <;> rcases h2 with h2 | ⟨e2, h2⟩
  · exact Or.inl (bef_tr h1 h2)
  · exact Or.inl (by rw [← e2]; exact h1)
  · exact Or.inl (by rw [e1]; exact h2)
  · exact Or.inr ⟨e1.trans e2, by omega⟩
theorem bfb_irr {T : Nat → Nat → Int64} {c : Nat} {d : Bool} {x : Nat} : bfb T c d x x = false := by
  cases e : bfb T c d x x
  · rfl
  · rw [bfb_iff, bef_irr] at e
    rcases e with e | ⟨-, e⟩
    · cases e
    · omega
theorem bfb_asym {T : Nat → Nat → Int64} {c : Nat} {d : Bool} {x y : Nat} (h : bfb T c d x y = true) : bfb T c d y x = false := by
  cases e : bfb T c d y x
  · rfl
  · have := bfb_tr h e
    rw [bfb_irr] at this
    cases this
/-- the row at i put at h, what stood there moved up; the same while the hole is at h -/
def iA (f : Nat → Nat) (h i : Nat) : Nat → Nat := fun j => if j = h then f i else if h < j ∧ j ≤ i then f (j - 1) else f j
def hA (f : Nat → Nat) (h i : Nat) : Nat → Nat := fun j => if h < j ∧ j ≤ i then f (j - 1) else f j
theorem hA_0 (f : Nat → Nat) (i : Nat) : hA f i i = f := by
  funext j
  unfold hA
  rw [if_neg (by omega)]
theorem hA_at {f : Nat → Nat} {h i j : Nat} (hj : j ≤ h) : hA f h i j = f j := by
  unfold hA
  rw [if_neg (by omega)]
theorem hA_s (f : Nat → Nat) {h i : Nat} (h0 : 0 < h) (hi : h ≤ i) : fS (hA f h i) h (f (h - 1)) = hA f (h - 1) i := by
  funext j
  by_cases hj : j = h
  · subst hj
    rw [fS_s]
    unfold hA
    rw [if_pos (by omega)]
  · rw [fS_n hj]
    unfold hA
    by_cases h1 : h < j ∧ j ≤ i
    · rw [if_pos h1, if_pos (by omega)]
    · rw [if_neg h1, if_neg (by omega)]
theorem hA_f (f : Nat → Nat) (h i : Nat) : fS (hA f h i) h (f i) = iA f h i := by
  funext j
  by_cases hj : j = h
  · subst hj
    rw [fS_s]
    unfold iA
    rw [if_pos rfl]
  · rw [fS_n hj]
    unfold iA hA
    rw [if_neg hj]
/-- the same rows, in another order -/
def Pm (q p : Nat → Nat) (m : Nat) : Prop := (∀ g : Nat → Bool, ct (fun j => g (q j)) m = ct (fun j => g (p j)) m) ∧ (∀ f : Nat → Int64, sm (fun j => f (q j)) m = sm (fun j => f (p j)) m)
theorem Pm.rf (q : Nat → Nat) (m : Nat) : Pm q q m := ⟨fun _ => rfl, fun _ => rfl⟩
theorem Pm.tr {q p o : Nat → Nat} {m : Nat} (h1 : Pm q p m) (h2 : Pm p o m) : Pm q o m := ⟨fun g => (h1.1 g).trans (h2.1 g), fun f => (h1.2 f).trans (h2.2 f)⟩
def swp {α : Type} (F : Nat → α) (a : Nat) : Nat → α := fun j => if j = a then F (a + 1) else if j = a + 1 then F a else F j
theorem sm_congr {f g : Nat → Int64} {n : Nat} (h : ∀ j, j < n → f j = g j) : sm f n = sm g n := by
  induction n with
  | zero => rfl
  | succ n ih => rw [sm, sm, ih (fun j hj => h j (by omega)), h n (by omega)]
theorem ct_swp (p : Nat → Bool) (a : Nat) : ∀ {m : Nat}, a + 1 < m → ct (swp p a) m = ct p m := by
  intro m
  induction m with
  | zero => intro h; omega
  | succ m ih =>
    intro h
    by_cases h1 : a + 1 < m
    · rw [ct, ct, ih h1, show swp p a m = p m by unfold swp; rw [if_neg (by omega), if_neg (by omega)]]
    · have hm : m = a + 1 := by omega
      subst hm
      have e1 : ct (swp p a) a = ct p a := ct_congr fun j hj => by unfold swp; rw [if_neg (by omega), if_neg (by omega)]
      have e2 : swp p a a = p (a + 1) := by unfold swp; rw [if_pos rfl]
      have e3 : swp p a (a + 1) = p a := by unfold swp; rw [if_neg (by omega), if_pos rfl]
      rw [ct, ct, ct, ct, e1, e2, e3]
      omega
theorem sm_swp (p : Nat → Int64) (a : Nat) : ∀ {m : Nat}, a + 1 < m → sm (swp p a) m = sm p m := by
  intro m
  induction m with
  | zero => intro h; omega
  | succ m ih =>
    intro h
    by_cases h1 : a + 1 < m
    · rw [sm, sm, ih h1, show swp p a m = p m by unfold swp; rw [if_neg (by omega), if_neg (by omega)]]
    · have hm : m = a + 1 := by omega
      subst hm
      have e1 : sm (swp p a) a = sm p a := sm_congr fun j hj => by unfold swp; rw [if_neg (by omega), if_neg (by omega)]
      have e2 : swp p a a = p (a + 1) := by unfold swp; rw [if_pos rfl]
      have e3 : swp p a (a + 1) = p a := by unfold swp; rw [if_neg (by omega), if_pos rfl]
      rw [sm, sm, sm, sm, e1, e2, e3, Int64.add_assoc, Int64.add_assoc, Int64.add_comm (p a)]
theorem pm_sw (q : Nat → Nat) {a m : Nat} (h : a + 1 < m) : Pm (swp q a) q m := by
  refine ⟨fun g => ?_, fun f => ?_⟩
  · have e : (fun j => g (swp q a j)) = swp (fun j => g (q j)) a := by
      funext j; unfold swp; split <;> (try split) <;> rfl
    rw [e, ct_swp _ a h]
  · have e : (fun j => f (swp q a j)) = swp (fun j => f (q j)) a := by
      funext j; unfold swp; split <;> (try split) <;> rfl
    rw [e, sm_swp _ a h]
theorem iA_i (f : Nat → Nat) (i : Nat) : iA f i i = f := by
  funext j
  unfold iA
  by_cases h : j = i
  · rw [if_pos h, h]
  · rw [if_neg h, if_neg (by omega)]
theorem iA_s (f : Nat → Nat) {h i : Nat} (hi : h < i) : iA f h i = swp (iA f (h + 1) i) h := by
  funext j
  unfold swp
  by_cases h1 : j = h
  · subst h1
    rw [if_pos rfl]
    unfold iA
    rw [if_pos rfl, if_pos rfl]
  · rw [if_neg h1]
    by_cases h2 : j = h + 1
    · subst h2
      rw [if_pos rfl]
      unfold iA
      rw [if_neg (by omega), if_pos (by omega), if_neg (by omega), if_neg (by omega)]
      rfl
    · rw [if_neg h2]
      unfold iA
      rw [if_neg h1, if_neg h2]
      by_cases h3 : h < j ∧ j ≤ i
      · rw [if_pos h3, if_pos (by omega)]
      · rw [if_neg h3, if_neg (by omega)]
theorem pm_iA (f : Nat → Nat) {i m : Nat} (hm : i < m) : ∀ (t h : Nat), h + t = i → Pm (iA f h i) f m
  | 0, h, e => by rw [show h = i by omega, iA_i]; exact Pm.rf f m
  | t + 1, h, e => by
    rw [iA_s f (by omega)]
    exact (pm_sw _ (by omega)).tr (pm_iA f hm t (h + 1) (by omega))
/-- sorted -/
def Sd (T : Nat → Nat → Int64) (c : Nat) (d : Bool) (q : Nat → Nat) (m : Nat) : Prop := ∀ i j, i < j → j < m → bfb T c d (q i) (q j) = true
theorem Sd.ins {T : Nat → Nat → Int64} {c : Nat} {d : Bool} {q : Nat → Nat} {h i : Nat} (hs : Sd T c d q i) (hi : h ≤ i) (hx : h = 0 ∨ bef d (T (q i) c) (T (q (h - 1)) c) = false) (hm : ∀ j, h ≤ j → j < i → bef d (T (q i) c) (T (q j) c) = true) (hlt : ∀ j, j < i → q j < q i) : Sd T c d (iA q h i) (i + 1) := by
  have X : ∀ a, a < h → bfb T c d (q a) (q i) = true := by
    intro a ha
    rcases hx with hx | hx
    · omega
    · have h1 : bfb T c d (q (h - 1)) (q i) = true := by
        rw [bfb_iff]
        rcases bef_tri d (T (q i) c) (T (q (h - 1)) c) with e | e | e
        · rw [hx] at e; cases e
        · exact Or.inr ⟨e.symm, hlt _ (by omega)⟩
        · exact Or.inl e
      by_cases h2 : a = h - 1
      · rw [h2]; exact h1
      · exact bfb_tr (hs a (h - 1) (by omega) (by omega)) h1
  intro a b hab hb
  unfold iA
  by_cases hb1 : b = h
  · rw [if_neg (show ¬ a = h by omega), if_neg (show ¬ (h < a ∧ a ≤ i) by omega), if_pos hb1]
    exact X a (by omega)
  · rw [if_neg hb1]
    by_cases hb2 : h < b ∧ b ≤ i
    · rw [if_pos hb2]
      by_cases ha1 : a = h
      · rw [if_pos ha1, bfb_iff]
        exact Or.inl (hm (b - 1) (by omega) (by omega))
      · rw [if_neg ha1]
        by_cases ha2 : h < a ∧ a ≤ i
        · rw [if_pos ha2]; exact hs (a - 1) (b - 1) (by omega) (by omega)
        · rw [if_neg ha2]; exact hs a (b - 1) (by omega) (by omega)
    · rw [if_neg hb2, if_neg (show ¬ a = h by omega), if_neg (show ¬ (h < a ∧ a ≤ i) by omega)]
      exact hs a b hab (by omega)
theorem iA_lt {q : Nat → Nat} {h i j t : Nat} (hj : j < i + 1) (hlt : ∀ j, j < i → q j < t) (ht : q i < t) : iA q h i j < t := by
  unfold iA
  split
  · exact ht
  · split
    · exact hlt _ (by omega)
    · by_cases e : j = i
      · rw [e]; exact ht
      · exact hlt _ (by omega)
theorem iA_ge {q : Nat → Nat} {h i j : Nat} (hi : h ≤ i) (hj : i < j) : iA q h i j = q j := by
  unfold iA
  rw [if_neg (by omega), if_neg (by omega)]
theorem ct_all {p : Nat → Bool} {n : Nat} (h : ∀ j, j < n → p j = true) : ct p n = n := by
  induction n with
  | zero => rfl
  | succ n ih => rw [ct_t (h n (by omega)), ih fun j hj => h j (by omega)]
/-- a row's rank in a sorted list -/
theorem Sd.rank {T : Nat → Nat → Int64} {c : Nat} {d : Bool} {q : Nat → Nat} {m k : Nat} (hs : Sd T c d q m) (hk : k < m) : ct (fun j => bfb T c d (q j) (q k)) m = k := by
  rw [ct_none (a := k) (by omega) (fun j h1 h2 => ?_), ct_all fun j hj => hs j k hj hk]
  by_cases e : j = k
  · show bfb T c d (q j) (q k) = false
    rw [e]; exact bfb_irr
  · exact bfb_asym (hs k j (by omega) h2)
theorem ct_pos {p : Nat → Bool} : ∀ {n : Nat}, 0 < ct p n → ∃ j, j < n ∧ p j = true
  | 0, h => absurd h (Nat.not_lt_zero 0)
  | n + 1, h => by
    by_cases hp : p n = true
    · exact ⟨n, by omega, hp⟩
    · rw [ct_f (by simpa using hp)] at h
      obtain ⟨j, h1, h2⟩ := ct_pos h
      exact ⟨j, by omega, h2⟩
theorem pos_ct {p : Nat → Bool} {n j : Nat} (hj : j < n) (hp : p j = true) : 0 < ct p n := by
  have h1 := ct_mono p (show j + 1 ≤ n by omega)
  rw [ct_t hp] at h1
  omega
/-- what the one list holds the other holds -/
theorem Pm.mem {q p : Nat → Nat} {m : Nat} (h : Pm q p m) {j : Nat} (hj : j < m) : ∃ i, i < m ∧ q i = p j := by
  have h1 := h.1 (fun x => decide (x = p j))
  have h2 : 0 < ct (fun i => decide (q i = p j)) m := by
    rw [h1]
    exact pos_ct hj (decide_eq_true rfl)
  obtain ⟨i, h3, h4⟩ := ct_pos h2
  exact ⟨i, h3, of_decide_eq_true h4⟩
theorem Pm.sym {q p : Nat → Nat} {m : Nat} (h : Pm q p m) : Pm p q m := ⟨fun g => (h.1 g).symm, fun f => (h.2 f).symm⟩
end PU2
end
section
/-! Pure rows: groups of a sorted list, and the same said of the rows themselves. -/
section PU3
/-- a group begins at i; row r is the first of its group -/
def sg (T : Nat → Nat → Int64) (c : Nat) (q : Nat → Nat) (i : Nat) : Bool := decide (i = 0) || !decide (T (q i) c = T (q (i - 1)) c)
def isF (P : Nat → Bool) (T : Nat → Nat → Int64) (c r : Nat) : Bool := P r && al (fun t => !(P t && decide (T t c = T r c))) r
/-- q is the list of the chosen rows below n, sorted by column c, the least first -/
def Gr (P : Nat → Bool) (T : Nat → Nat → Int64) (c n : Nat) (q : Nat → Nat) : Prop := (∃ p, En p P n ∧ Pm q p (ct P n)) ∧ Sd T c false q (ct P n)
theorem pm_row {P : Nat → Bool} {n : Nat} {q : Nat → Nat} (h : ∃ p, En p P n ∧ Pm q p (ct P n)) {j : Nat} (hj : j < ct P n) : q j < n ∧ P (q j) = true := by
  obtain ⟨p, h1, h2⟩ := h
  obtain ⟨i, hi, e⟩ := h2.sym.mem hj
  obtain ⟨a, b, -⟩ := en_inv h1 i hi
  rw [← e]
  exact ⟨a, b⟩
theorem pm_of {P : Nat → Bool} {n : Nat} {q : Nat → Nat} (h : ∃ p, En p P n ∧ Pm q p (ct P n)) {r : Nat} (hr : r < n) (hP : P r = true) : ∃ j, j < ct P n ∧ q j = r := by
  obtain ⟨p, h1, h2⟩ := h
  have h3 := ct_mono P (show r + 1 ≤ n by omega)
  rw [ct_t hP] at h3
  obtain ⟨j, hj, e⟩ := h2.mem (show ct P r < ct P n by omega)
  exact ⟨j, hj, e.trans (h1 r hr hP)⟩
theorem pm_ct {P : Nat → Bool} {n : Nat} {q : Nat → Nat} (h : ∃ p, En p P n ∧ Pm q p (ct P n)) (g : Nat → Bool) : ct (fun t => P t && g t) n = ct (fun j => g (q j)) (ct P n) := by
  obtain ⟨p, h1, h2⟩ := h
  rw [ct_tr h1 g (Nat.le_refl n), h2.1 g]
theorem pm_sm {P : Nat → Bool} {n : Nat} {q : Nat → Nat} (h : ∃ p, En p P n ∧ Pm q p (ct P n)) (f : Nat → Int64) : sm (fun t => if P t then f t else 0) n = sm (fun j => f (q j)) (ct P n) := by
  obtain ⟨p, h1, h2⟩ := h
  rw [sm_tr h1 f (Nat.le_refl n), h2.2 f]
theorem Sd.le {T : Nat → Nat → Int64} {c : Nat} {q : Nat → Nat} {m i j : Nat} (hs : Sd T c false q m) (hij : i ≤ j) (hj : j < m) : (T (q i) c).toInt ≤ (T (q j) c).toInt := by
  by_cases e : i = j
  · rw [e]; exact Int.le_refl _
  · have h := hs i j (by omega) hj
    rw [bfb_iff] at h
    rcases h with h | ⟨h, -⟩
    · simp only [bef, Bool.false_eq_true, if_false, decide_eq_true_eq, Int64.lt_iff_toInt_lt] at h
      omega
    · rw [h]; exact Int.le_refl _
theorem sg_f {T : Nat → Nat → Int64} {c : Nat} {q : Nat → Nat} {i : Nat} (h : sg T c q i = false) : i ≠ 0 ∧ T (q i) c = T (q (i - 1)) c := by
  simpa [sg] using h
theorem sg_t {T : Nat → Nat → Int64} {c : Nat} {q : Nat → Nat} {i : Nat} (h : sg T c q i = true) : i = 0 ∨ T (q i) c ≠ T (q (i - 1)) c := by
  simpa [sg] using h
theorem isF_iff {P : Nat → Bool} {T : Nat → Nat → Int64} {c r : Nat} : isF P T c r = true ↔ P r = true ∧ ∀ t, t < r → P t = true → T t c ≠ T r c := by
  unfold isF
  rw [Bool.and_eq_true, al_iff]
  refine and_congr_right fun _ => ⟨fun h t ht hP e => ?_, fun h t ht => ?_⟩
  · have h1 := h t ht
    simp [hP, e] at h1
  · cases hP : P t
    · rfl
    · simp [h t ht hP]
theorem Gr.first {P : Nat → Bool} {T : Nat → Nat → Int64} {c n : Nat} {q : Nat → Nat} (h : Gr P T c n q) {i : Nat} (hi : i < ct P n) : sg T c q i = isF P T c (q i) := by
  obtain ⟨hm, hs⟩ := h
  obtain ⟨hqn, hqP⟩ := pm_row hm hi
  cases e : sg T c q i
  · obtain ⟨h0, he⟩ := sg_f e
    cases e2 : isF P T c (q i)
    · rfl
    · exfalso
      rw [isF_iff] at e2
      have h1 := hs (i - 1) i (by omega) hi
      rw [bfb_iff, he, bef_irr] at h1
      rcases h1 with h1 | ⟨-, h1⟩
      · cases h1
      · exact e2.2 _ h1 (pm_row hm (show i - 1 < ct P n by omega)).2 he.symm
  · symm
    rw [isF_iff]
    refine ⟨hqP, fun t ht hPt et => ?_⟩
    obtain ⟨j, hj, ej⟩ := pm_of hm (show t < n by omega) hPt
    have h1 : bfb T c false (q j) (q i) = true := by
      rw [bfb_iff, ej]
      exact Or.inr ⟨et, ht⟩
    have hji : j < i := by
      apply Classical.byContradiction
      intro hn
      by_cases e1 : j = i
      · rw [e1, bfb_irr] at h1; cases h1
      · have h2 := bfb_asym (hs i j (by omega) hj)
        rw [h2] at h1; cases h1
    rcases sg_t e with e1 | e1
    · omega
    · have h2 := hs.le (show j ≤ i - 1 by omega) (by omega)
      have h3 := hs.le (show i - 1 ≤ i by omega) hi
      rw [ej, et] at h2
      exact e1 (Int64.toInt_inj.mp (by omega))
/-- as many groups by the one count as by the other -/
theorem Gr.count {P : Nat → Bool} {T : Nat → Nat → Int64} {c n : Nat} {q : Nat → Nat} (h : Gr P T c n q) : ct (sg T c q) (ct P n) = ct (isF P T c) n := by
  have e1 : ct (sg T c q) (ct P n) = ct (fun j => isF P T c (q j)) (ct P n) := ct_congr fun j hj => h.first hj
  rw [e1, ← pm_ct h.1 (isF P T c)]
  refine ct_congr fun t _ => ?_
  cases e : isF P T c t
  · exact Bool.and_false _
  · rw [(isF_iff.mp e).1]; rfl
theorem ct_at {p : Nat → Bool} : ∀ {n j : Nat}, j < ct p n → ∃ i, i < n ∧ p i = true ∧ ct p i = j
  | 0, j, h => absurd h (Nat.not_lt_zero j)
  | n + 1, j, h => by
    by_cases hp : p n = true
    · rw [ct_t hp] at h
      by_cases h1 : j < ct p n
      · obtain ⟨i, a, b⟩ := ct_at h1
        exact ⟨i, by omega, b⟩
      · exact ⟨n, by omega, hp, by omega⟩
    · rw [ct_f (by simpa using hp)] at h
      obtain ⟨i, a, b⟩ := ct_at h
      exact ⟨i, by omega, b⟩
theorem ct_lt {p : Nat → Bool} {n i : Nat} (hi : i < n) (hp : p i = true) : ct p i < ct p n := by
  have h1 := ct_mono p (show i + 1 ≤ n by omega)
  rw [ct_t hp] at h1
  omega
theorem ct_inj {p : Nat → Bool} {i j : Nat} (hi : p i = true) (hj : p j = true) (e : ct p i = ct p j) : i = j := by
  apply Classical.byContradiction
  intro hn
  rcases Nat.lt_or_gt_of_ne hn with h | h
  · have := ct_lt h hi; omega
  · have := ct_lt h hj; omega
/-- the group that begins at i is the k-th by its cell -/
theorem Gr.less {P : Nat → Bool} {T : Nat → Nat → Int64} {c n : Nat} {q : Nat → Nat} (h : Gr P T c n q) {i : Nat} (hi : i < ct P n) (hg : sg T c q i = true) : ct (fun t => isF P T c t && decide (T t c < T (q i) c)) n = ct (sg T c q) i := by
  have e0 : ct (fun t => isF P T c t && decide (T t c < T (q i) c)) n = ct (fun t => P t && (isF P T c t && decide (T t c < T (q i) c))) n := by
    refine ct_congr fun t _ => ?_
    cases e : isF P T c t
    · exact (Bool.and_false _).symm
    · rw [(isF_iff.mp e).1]; rfl
  rw [e0, pm_ct h.1 (fun t => isF P T c t && decide (T t c < T (q i) c))]
  have hs := h.2
  rw [ct_none (a := i) (by omega) (fun j h1 h2 => ?_)]
  · refine ct_congr fun j hj => ?_
    show (isF P T c (q j) && decide (T (q j) c < T (q i) c)) = _
    rw [← h.first (show j < ct P n by omega)]
    have h1 : T (q j) c < T (q i) c := by
      rcases sg_t hg with e | e
      · omega
      · have h2 := hs.le (show j ≤ i - 1 by omega) (by omega)
        have h3 := hs.le (show i - 1 ≤ i by omega) hi
        rw [Int64.lt_iff_toInt_lt]
        have h4 : (T (q i) c).toInt ≠ (T (q (i - 1)) c).toInt := fun z => e (Int64.toInt_inj.mp z)
        omega
    rw [decide_eq_true h1, Bool.and_true]
  · have h3 := hs.le h1 h2
    show (isF P T c (q j) && decide (T (q j) c < T (q i) c)) = false
    rw [decide_eq_false (by rw [Int64.lt_iff_toInt_lt]; omega), Bool.and_false]
/-- which places hold the group -/
theorem Gr.win {P : Nat → Bool} {T : Nat → Nat → Int64} {c n : Nat} {q : Nat → Nat} (h : Gr P T c n q) {a b : Nat} (hab : a < b) (hb : b ≤ ct P n) (hg : sg T c q a = true) (hno : ∀ j, a < j → j < b → sg T c q j = false) (hend : b = ct P n ∨ sg T c q b = true) {j : Nat} (hj : j < ct P n) : T (q j) c = T (q a) c ↔ a ≤ j ∧ j < b := by
  have hs := h.2
  have heq : ∀ d, a + d < b → T (q (a + d)) c = T (q a) c := by
    intro d
    induction d with
    | zero => intro _; rfl
    | succ d ih =>
      intro hd
      have h1 := (sg_f (hno (a + (d + 1)) (by omega) hd)).2
      rw [h1, show a + (d + 1) - 1 = a + d by omega]
      exact ih (by omega)
  constructor
  · intro e
    refine ⟨Nat.le_of_not_lt fun h1 => ?_, Nat.lt_of_not_le fun h1 => ?_⟩
    · rcases sg_t hg with e1 | e1
      · omega
      · have h2 := hs.le (show j ≤ a - 1 by omega) (by omega)
        have h3 := hs.le (show a - 1 ≤ a by omega) (by omega)
        rw [e] at h2
        exact e1 (Int64.toInt_inj.mp (by omega))
    · rcases hend with e1 | e1
      · omega
      · rcases sg_t e1 with e2 | e2
        · omega
        · have h2 := hs.le h1 hj
          have h3 := hs.le (show b - 1 ≤ b by omega) (by omega)
          have h4 := heq (b - 1 - a) (by omega)
          rw [show a + (b - 1 - a) = b - 1 by omega] at h4
          rw [e, ← h4] at h2
          exact e2 (Int64.toInt_inj.mp (by omega))
  · intro ⟨h1, h2⟩
    have h3 := heq (j - a) (by omega)
    rwa [show a + (j - a) = j by omega] at h3
theorem sm_win {f : Nat → Int64} {p : Nat → Bool} {a b : Nat} (hab : a ≤ b) : ∀ {m : Nat}, b ≤ m → (∀ j, j < m → (p j = true ↔ a ≤ j ∧ j < b)) → sm (fun j => if p j then f j else 0) m = sm (fun j => f (a + j)) (b - a) := by
  intro m
  induction m generalizing b with
  | zero => intro hb _; rw [show b - a = 0 by omega]; rfl
  | succ m ih =>
    intro hb h
    by_cases hbm : b = m + 1
    · by_cases ham : a = m + 1
      · have e := ih (b := a) (Nat.le_refl a)
        clear e
        rw [show b - a = 0 by omega]
        have e0 : ∀ j, j < m + 1 → (if p j then f j else 0) = (0 : Int64) := fun j hj => by
          rw [if_neg]
          intro z
          have := (h j hj).mp z
          omega
        have e1 : ∀ d, d ≤ m + 1 → sm (fun j => if p j then f j else 0) d = 0 := by
          intro d
          induction d with
          | zero => intro _; rfl
          | succ d ih2 => intro hd; rw [sm, ih2 (by omega), e0 d (by omega)]; rfl
        exact e1 (m + 1) (Nat.le_refl _)
      · subst hbm
        have e1 := ih (b := m) (by omega) (Nat.le_refl m) (fun j hj => by have := h j (by omega); rw [this]; omega)
        rw [sm, e1, if_pos ((h m (by omega)).mpr ⟨by omega, by omega⟩), show m + 1 - a = (m - a) + 1 by omega, sm, show a + (m - a) = m by omega]
    · have e1 := ih hab (by omega) (fun j hj => h j (by omega))
      rw [sm, e1, if_neg (fun z => by have := (h m (by omega)).mp z; omega), Int64.add_zero]
theorem ct_win {p : Nat → Bool} {a b m : Nat} (hab : a ≤ b) (hb : b ≤ m) (h : ∀ j, j < m → (p j = true ↔ a ≤ j ∧ j < b)) : ct p m = b - a := by
  have hf : ∀ j, j < m → ¬ (a ≤ j ∧ j < b) → p j = false := fun j hj hn => by
    cases e : p j
    · rfl
    · exact absurd ((h j hj).mp e) hn
  rw [ct_none (a := b) hb (fun j h1 h2 => hf j h2 (by omega))]
  have e0 : ct p a = 0 := by rw [ct_none (a := 0) (Nat.zero_le a) (fun j _ h2 => hf j (by omega) (by omega))]; rfl
  have e1 : ∀ d, a + d ≤ b → ct p (a + d) = d := by
    intro d
    induction d with
    | zero => intro _; exact e0
    | succ d ih => intro hd; rw [← Nat.add_assoc, ct_t ((h (a + d) (by omega)).mpr ⟨by omega, by omega⟩), ih (by omega)]
  have := e1 (b - a) (by omega)
  rwa [show a + (b - a) = b by omega] at this
/-- the greatest (d = true) or the least of f at a .. a + j -/
def bnd (f : Nat → Int64) (d : Bool) : Nat → Int64
  | 0 => f 0
  | j + 1 => if bef d (f (j + 1)) (bnd f d j) then f (j + 1) else bnd f d j
theorem bnd_in (f : Nat → Int64) (d : Bool) : ∀ j, ∃ i, i ≤ j ∧ bnd f d j = f i
  | 0 => ⟨0, Nat.le_refl _, rfl⟩
  | j + 1 => by
    rw [bnd]
    split
    · exact ⟨j + 1, Nat.le_refl _, rfl⟩
    · obtain ⟨i, h1, h2⟩ := bnd_in f d j
      exact ⟨i, by omega, h2⟩
theorem bnd_ge (f : Nat → Int64) (d : Bool) : ∀ {j i : Nat}, i ≤ j → bef d (f i) (bnd f d j) = false
  | 0, i, h => by rw [Nat.le_zero.mp h]; exact bef_irr d _
  | j + 1, i, h => by
    rw [bnd]
    by_cases e : bef d (f (j + 1)) (bnd f d j) = true
    · rw [if_pos e]
      by_cases h1 : i = j + 1
      · rw [h1]; exact bef_irr d _
      · have h2 := bnd_ge f d (show i ≤ j by omega)
        cases e2 : bef d (f i) (f (j + 1))
        · rfl
        · rw [bef_tr e2 e] at h2; cases h2
    · rw [if_neg e]
      by_cases h1 : i = j + 1
      · rw [h1]; simpa using e
      · exact bnd_ge f d (show i ≤ j by omega)
/-- the best of a set is one -/
theorem best_eq {d : Bool} {x y : Int64} (h1 : bef d x y = false) (h2 : bef d y x = false) : x = y := by
  rcases bef_tri d x y with e | e | e
  · rw [h1] at e; cases e
  · exact e
  · rw [h2] at e; cases e
theorem bnd_t {f : Nat → Int64} {d : Bool} {j : Nat} (h : bef d (f (j + 1)) (bnd f d j) = true) : bnd f d (j + 1) = f (j + 1) := by rw [bnd, if_pos h]
theorem bnd_f {f : Nat → Int64} {d : Bool} {j : Nat} (h : bef d (f (j + 1)) (bnd f d j) = false) : bnd f d (j + 1) = bnd f d j := by rw [bnd, if_neg (by rw [h]; decide)]
theorem bef_Tt {x y : Int64} (h : y < x) : bef true x y = true := decide_eq_true h
theorem bef_Tf {x y : Int64} (h : ¬ y < x) : bef true x y = false := decide_eq_false h
theorem bef_Ft {x y : Int64} (h : x < y) : bef false x y = true := decide_eq_true h
theorem bef_Ff {x y : Int64} (h : ¬ x < y) : bef false x y = false := decide_eq_false h
theorem pm_lt {q p : Nat → Nat} {m M : Nat} (h : Pm q p m) (hp : ∀ j, j < m → p j < M) : ∀ j, j < m → q j < M := by
  intro j hj
  obtain ⟨i, hi, e⟩ := h.sym.mem hj
  rw [← e]
  exact hp i hi
theorem hm_s {p : Nat → Prop} {h i : Nat} (hm : ∀ j, h ≤ j → j < i → p j) (h1 : p (h - 1)) : ∀ j, h - 1 ≤ j → j < i → p j := by
  intro j h2 h3
  by_cases e : j = h - 1
  · rw [e]; exact h1
  · exact hm j (by omega) h3
theorem Sd.less {T : Nat → Nat → Int64} {c : Nat} {d : Bool} {q : Nat → Nat} {m i : Nat} (h : Sd T c d q i) (hm : m ≤ i) : Sd T c d q m := fun a b h1 h2 => h a b h1 (by omega)
/-- where group x begins, or -1; where the group ends -/
def gsF (p : Nat → Bool) (x : Int32) (i : Nat) : Nat → Int32
  | 0 => -1
  | f + 1 => if p i && decide (nI (ct p i) = x) then nI i else gsF p x (i + 1) f
def gE (p : Nat → Bool) (i : Nat) : Nat → Nat
  | 0 => i
  | f + 1 => if p i then i else gE p (i + 1) f
theorem gsF_some {p : Nat → Bool} {a k : Nat} (hp : p a = true) (hk : ct p a = k) (hk2 : k < 2 ^ 31) : ∀ (f i : Nat), i ≤ a → a < i + f → gsF p (nI k) i f = nI a
  | 0, i, h1, h2 => by omega
  | f + 1, i, h1, h2 => by
    rw [gsF]
    by_cases e : i = a
    · subst e
      rw [if_pos (by rw [hp, hk, decide_eq_true rfl]; rfl)]
    · rw [if_neg]
      · exact gsF_some hp hk hk2 f (i + 1) (by omega) (by omega)
      · intro h
        rw [Bool.and_eq_true, decide_eq_true_eq] at h
        have h3 := ct_lt (show i < a by omega) h.1
        have h4 := (nI_eq (by omega) hk2).mp h.2
        omega
theorem gsF_none {p : Nat → Bool} {x : Int32} : ∀ (f i : Nat), (∀ j, i ≤ j → j < i + f → p j = true → nI (ct p j) ≠ x) → gsF p x i f = -1
  | 0, i, _ => rfl
  | f + 1, i, h => by
    rw [gsF, if_neg]
    · exact gsF_none f (i + 1) fun j h1 h2 h3 => h j (by omega) (by omega) h3
    · intro h1
      rw [Bool.and_eq_true, decide_eq_true_eq] at h1
      exact h i (by omega) (by omega) h1.1 h1.2
theorem gE_spec {p : Nat → Bool} : ∀ (f i : Nat), i ≤ gE p i f ∧ gE p i f ≤ i + f ∧ (∀ j, i ≤ j → j < gE p i f → p j = false) ∧ (gE p i f = i + f ∨ p (gE p i f) = true)
  | 0, i => ⟨Nat.le_refl _, Nat.le_refl _, fun j h1 h2 => by simp [gE] at h2; omega, Or.inl rfl⟩
  | f + 1, i => by
    rw [gE]
    by_cases hp : p i = true
    · rw [if_pos hp]
      exact ⟨Nat.le_refl _, by omega, fun j h1 h2 => by omega, Or.inr hp⟩
    · rw [if_neg hp]
      obtain ⟨h1, h2, h3, h4⟩ := gE_spec (p := p) f (i + 1)
      refine ⟨by omega, by omega, fun j h5 h6 => ?_, ?_⟩
      · by_cases e : j = i
        · rw [e]; simpa using hp
        · exact h3 j (by omega) h6
      · rcases h4 with h4 | h4
        · exact Or.inl (by omega)
        · exact Or.inr h4
theorem sn_end {f : Nat → Nat → Bool} {t m : Nat} (h : t = m ∨ (t = 1 ∧ m = 0)) : nI (sn (fun t => ct (f t) t) t) = nI (sn (fun t => ct (f t) t) m) := by
  rcases h with h | ⟨h, h2⟩
  · rw [h]
  · rw [h, h2]; rfl
end PU3
end
section
/-! Pure rows: a row appended, rows taken away. -/
section PU4
def apT (T : Nat → Nat → Int64) (n : Nat) (a b c : Int32) (d : Int64) : Nat → Nat → Int64 := tS (tS (tS (tS T n 0 (Int32.toInt64 a)) n 1 (Int32.toInt64 b)) n 2 (Int32.toInt64 c)) n 3 d
/-- the table when the first r rows are gone through: those that stay are moved up -/
def pT (P : Nat → Bool) (T : Nat → Nat → Int64) : Nat → Nat → Nat → Int64
  | 0 => T
  | r + 1 => if P r then pT P T r else mvR (pT P T r) r (r - ct P r) 4
theorem pT_t {P : Nat → Bool} {T : Nat → Nat → Int64} {r : Nat} (h : P r = true) : pT P T (r + 1) = pT P T r := by rw [pT, if_pos h]
theorem pT_f {P : Nat → Bool} {T : Nat → Nat → Int64} {r : Nat} (h : P r = false) : pT P T (r + 1) = mvR (pT P T r) r (r - ct P r) 4 := by rw [pT, if_neg (by rw [h]; decide)]
theorem pu_f1 {q : Nat → Nat} {P : Nat → Bool} {n r : Nat} (_ : En q P n) (hr : r < n) (h : ct P n ≤ ct P r) : P r = false := by
  cases e : P r
  · rfl
  · have := ct_lt hr e; omega
theorem pu_f2 {q : Nat → Nat} {P : Nat → Bool} {n r : Nat} (hE : En q P n) (hr : r < n) (h : ¬ q (ct P r) = r) : P r = false := by
  cases e : P r
  · rfl
  · exact absurd (hE r hr e) h
theorem pu_t {q : Nat → Nat} {P : Nat → Bool} {n r : Nat} (hE : En q P n) (h1 : ct P r < ct P n) (h : q (ct P r) = r) : P r = true := by
  have := (en_inv hE _ h1).2.1
  rwa [h] at this
end PU4
end
section
/-! Contracts of the hall: laid by program (wip/whole/gen.py). -/
set_option maxHeartbeats 4000000 in
set_option maxRecDepth 100000 in
theorem cX_spot (l : Launch) (r c : Nat)  : Met l yX0_spot (wA yX0_spot cX0_spot 2 (some .int)) (rN 0) (va_Pc [.int (nI r), .int (nI c)] (fun _ => True)) (vp_Si (fun z => z = nI (c * 128 + r))) 0 0 (fun _ => False) := by
  refine met_of RX0 rfl (by decide) (Nat.le_of_ble_eq_true rfl) (fun p e s m below meth cd ls E hr hlk _ hB hl => ?_)
  have hl : lv_has ls 2 [(0, .int (nI r)), (1, .int (nI c))] := hl
  refine lv_iload_n E.1 E.2.1 dX0_spot_0 rfl (lv_at hl 1 rfl) ?_
  refine lv_sipush (v := nI 128) E.1 E.2.1 dX0_spot_1 rfl ?_
  refine n_imul E dX0_spot_4 ?_
  refine lv_iload_n E.1 E.2.1 dX0_spot_5 rfl (lv_at hl 0 rfl) ?_
  refine n_iadd E dX0_spot_6 ?_
  exact e_i E hr hlk rfl dX0_spot_7
set_option maxHeartbeats 4000000 in
set_option maxRecDepth 100000 in
theorem cX_place (l : Launch) (b c : Nat)  : Met l yX0_place (wA yX0_place cX0_place 2 (some .int)) (rN 0) (va_Pc [.int (nI b), .int (nI c)] (fun _ => True)) (vp_Si (fun z => z = nI (b * 4 + c))) 0 0 (fun _ => False) := by
  refine met_of RX0 rfl (by decide) (Nat.le_of_ble_eq_true rfl) (fun p e s m below meth cd ls E hr hlk _ hB hl => ?_)
  have hl : lv_has ls 2 [(0, .int (nI b)), (1, .int (nI c))] := hl
  refine lv_iload_n E.1 E.2.1 dX0_place_0 rfl (lv_at hl 0 rfl) ?_
  refine lv_iconst (v := nI 4) E.1 E.2.1 dX0_place_1 rfl ?_
  refine n_imul E dX0_place_2 ?_
  refine lv_iload_n E.1 E.2.1 dX0_place_3 rfl (lv_at hl 1 rfl) ?_
  refine n_iadd E dX0_place_4 ?_
  exact e_i E hr hlk rfl dX0_place_5
set_option maxHeartbeats 4000000 in
set_option maxRecDepth 100000 in
theorem cX_fullBlocks (l : Launch) (D : va_G) (ad : Nat → Nat) (ca : Nat → ClassId) (T : Nat → Nat → Int64) (n : Nat) (kc ko : Nat → Nat) (kv : Nat → Int64) (k : Nat) (lo hi : Nat → Int64) (bw bb pk : Nat → Nat)  (hn : n ≤ 128) : Met l yX0_fullBlocks (wA yX0_fullBlocks cX0_fullBlocks 1 (some .int)) (rN 0) (va_Pc [.ref (ad 0)] (pW D c2 (tX ca) (wX ad ca T n kc ko kv k lo hi bw bb pk))) (vp_Si (fun z => z = nI (n / 16))) 0 0 (fun _ => False) := by
  refine met_of RX0 rfl (by decide) (Nat.le_of_ble_eq_true rfl) (fun p e s m below meth cd ls E hr hlk _ hB hl => ?_)
  obtain ⟨hP, hK⟩ := hB
  have hl : lv_has ls 1 [(0, .ref (ad 0))] := hl
  refine lv_aload_n E.1 E.2.1 dX0_fullBlocks_0 rfl (lv_at hl 0 rfl) ?_
  refine n_get E inX hK hP 0 rfl rfl 1 (by decide) flX_13 rfl rfl dX0_fullBlocks_1 ?_
  refine lv_bipush (v := nI 16) E.1 E.2.1 dX0_fullBlocks_4 rfl ?_
  refine n_idiv E (by omega) (by omega) (by omega) dX0_fullBlocks_6 ?_
  exact e_i E hr hlk rfl dX0_fullBlocks_7
set_option maxHeartbeats 4000000 in
set_option maxRecDepth 100000 in
theorem cX_startedBlocks (l : Launch) (D : va_G) (ad : Nat → Nat) (ca : Nat → ClassId) (T : Nat → Nat → Int64) (n : Nat) (kc ko : Nat → Nat) (kv : Nat → Int64) (k : Nat) (lo hi : Nat → Int64) (bw bb pk : Nat → Nat)  (hn : n ≤ 128) : Met l yX0_startedBlocks (wA yX0_startedBlocks cX0_startedBlocks 1 (some .int)) (rN 0) (va_Pc [.ref (ad 0)] (pW D c2 (tX ca) (wX ad ca T n kc ko kv k lo hi bw bb pk))) (vp_Si (fun z => z = nI ((n + 16 - 1) / 16))) 0 0 (fun _ => False) := by
  refine met_of RX0 rfl (by decide) (Nat.le_of_ble_eq_true rfl) (fun p e s m below meth cd ls E hr hlk _ hB hl => ?_)
  obtain ⟨hP, hK⟩ := hB
  have hl : lv_has ls 1 [(0, .ref (ad 0))] := hl
  refine lv_aload_n E.1 E.2.1 dX0_startedBlocks_0 rfl (lv_at hl 0 rfl) ?_
  refine n_get E inX hK hP 0 rfl rfl 1 (by decide) flX_13 rfl rfl dX0_startedBlocks_1 ?_
  refine lv_bipush (v := nI 16) E.1 E.2.1 dX0_startedBlocks_4 rfl ?_
  refine n_iadd E dX0_startedBlocks_6 ?_
  refine lv_iconst (v := nI 1) E.1 E.2.1 dX0_startedBlocks_7 rfl ?_
  refine n_isub E (by omega) dX0_startedBlocks_8 ?_
  refine lv_bipush (v := nI 16) E.1 E.2.1 dX0_startedBlocks_9 rfl ?_
  refine n_idiv E (by omega) (by omega) (by omega) dX0_startedBlocks_11 ?_
  exact e_i E hr hlk rfl dX0_startedBlocks_12
set_option maxHeartbeats 4000000 in
set_option maxRecDepth 100000 in
theorem cX_couldHold (l : Launch) (o : Nat) (v x y : Int64) (ho : o < 6) : Met l yX0_couldHold (wA yX0_couldHold cX0_couldHold 7 (some .boolean)) (rN 0) (va_Pc [.int (nI o), .long v, .long x, .long y] (fun _ => True)) (vp_Si (fun z => z = bI (cH o v x y))) 0 0 (fun _ => False) := by
  refine met_of RX0 rfl (by decide) (Nat.le_of_ble_eq_true rfl) (fun p e s m below meth cd ls E hr hlk _ hB hl => ?_)
  have hl : lv_has ls 7 [(0, .int (nI o)), (1, .long v), (3, .long x), (5, .long y)] := hl
  refine lv_iload_n E.1 E.2.1 dX0_couldHold_0 rfl (lv_at hl 0 rfl) ?_
  rcases o6 ho with rfl | rfl | rfl | rfl | rfl | rfl
  · skip
    refine lv_tableIn (off := 35) (tgt := 36) E.1 E.2.1 dX0_couldHold_1 (by decide) (by decide) (by decide) rfl ?_
    refine lv_lload_n E.1 E.2.1 dX0_couldHold_36 rfl (lv_at hl 2 rfl) ?_
    refine lv_lload_n E.1 E.2.1 dX0_couldHold_37 rfl (lv_at hl 1 rfl) ?_
    refine l_if_ge (tgt := 46) E dX0_couldHold_38 dX0_couldHold_39 rfl (fun h38 => ?_) (fun h38 => ?_)
    · skip
      refine lv_iconst (v := nI 0) E.1 E.2.1 dX0_couldHold_46 rfl ?_
      exact e_z E hr hlk (show _ = _ from congrArg bI (show false = _ from by simp [cH, h38])) dX0_couldHold_47
    · skip
      refine lv_iconst (v := nI 1) E.1 E.2.1 dX0_couldHold_42 rfl ?_
      refine lv_goto (tgt := 47) E.1 E.2.1 dX0_couldHold_43 rfl ?_
      exact e_z E hr hlk (show _ = _ from congrArg bI (show true = _ from by simp [cH, h38])) dX0_couldHold_47
  · skip
    refine lv_tableIn (off := 47) (tgt := 48) E.1 E.2.1 dX0_couldHold_1 (by decide) (by decide) (by decide) rfl ?_
    refine lv_lload_n E.1 E.2.1 dX0_couldHold_48 rfl (lv_at hl 2 rfl) ?_
    refine lv_lload_n E.1 E.2.1 dX0_couldHold_49 rfl (lv_at hl 1 rfl) ?_
    refine l_if_gt (tgt := 58) E dX0_couldHold_50 dX0_couldHold_51 rfl (fun h50 => ?_) (fun h50 => ?_)
    · skip
      refine lv_iconst (v := nI 0) E.1 E.2.1 dX0_couldHold_58 rfl ?_
      exact e_z E hr hlk (show _ = _ from congrArg bI (show false = _ from by simp [cH, h50])) dX0_couldHold_59
    · skip
      refine lv_iconst (v := nI 1) E.1 E.2.1 dX0_couldHold_54 rfl ?_
      refine lv_goto (tgt := 59) E.1 E.2.1 dX0_couldHold_55 rfl ?_
      exact e_z E hr hlk (show _ = _ from congrArg bI (show true = _ from by simp [cH, h50])) dX0_couldHold_59
  · skip
    refine lv_tableIn (off := 59) (tgt := 60) E.1 E.2.1 dX0_couldHold_1 (by decide) (by decide) (by decide) rfl ?_
    refine lv_lload_n E.1 E.2.1 dX0_couldHold_60 rfl (lv_at hl 2 rfl) ?_
    refine lv_lload_n E.1 E.2.1 dX0_couldHold_61 rfl (lv_at hl 1 rfl) ?_
    refine l_if_gt (tgt := 77) E dX0_couldHold_62 dX0_couldHold_63 rfl (fun h62 => ?_) (fun h62 => ?_)
    · skip
      refine lv_iconst (v := nI 0) E.1 E.2.1 dX0_couldHold_77 rfl ?_
      exact e_z E hr hlk (show _ = _ from congrArg bI (show false = _ from by simp [cH, h62])) dX0_couldHold_78
    · skip
      refine lv_lload_n E.1 E.2.1 dX0_couldHold_66 rfl (lv_at hl 1 rfl) ?_
      refine lv_lload E.1 E.2.1 dX0_couldHold_67 (lv_at hl 3 rfl) ?_
      refine l_if_gt (tgt := 77) E dX0_couldHold_69 dX0_couldHold_70 rfl (fun h69 => ?_) (fun h69 => ?_)
      · skip
        refine lv_iconst (v := nI 0) E.1 E.2.1 dX0_couldHold_77 rfl ?_
        exact e_z E hr hlk (show _ = _ from congrArg bI (show false = _ from by simp [cH, h62, h69])) dX0_couldHold_78
      · skip
        refine lv_iconst (v := nI 1) E.1 E.2.1 dX0_couldHold_73 rfl ?_
        refine lv_goto (tgt := 78) E.1 E.2.1 dX0_couldHold_74 rfl ?_
        exact e_z E hr hlk (show _ = _ from congrArg bI (show true = _ from by simp [cH, h62, h69])) dX0_couldHold_78
  · skip
    refine lv_tableIn (off := 78) (tgt := 79) E.1 E.2.1 dX0_couldHold_1 (by decide) (by decide) (by decide) rfl ?_
    refine lv_lload E.1 E.2.1 dX0_couldHold_79 (lv_at hl 3 rfl) ?_
    refine lv_lload_n E.1 E.2.1 dX0_couldHold_81 rfl (lv_at hl 1 rfl) ?_
    refine l_if_lt (tgt := 90) E dX0_couldHold_82 dX0_couldHold_83 rfl (fun h82 => ?_) (fun h82 => ?_)
    · skip
      refine lv_iconst (v := nI 0) E.1 E.2.1 dX0_couldHold_90 rfl ?_
      exact e_z E hr hlk (show _ = _ from congrArg bI (show false = _ from by simp [cH, h82])) dX0_couldHold_91
    · skip
      refine lv_iconst (v := nI 1) E.1 E.2.1 dX0_couldHold_86 rfl ?_
      refine lv_goto (tgt := 91) E.1 E.2.1 dX0_couldHold_87 rfl ?_
      exact e_z E hr hlk (show _ = _ from congrArg bI (show true = _ from by simp [cH, h82])) dX0_couldHold_91
  · skip
    refine lv_tableIn (off := 91) (tgt := 92) E.1 E.2.1 dX0_couldHold_1 (by decide) (by decide) (by decide) rfl ?_
    refine lv_lload E.1 E.2.1 dX0_couldHold_92 (lv_at hl 3 rfl) ?_
    refine lv_lload_n E.1 E.2.1 dX0_couldHold_94 rfl (lv_at hl 1 rfl) ?_
    refine l_if_le (tgt := 103) E dX0_couldHold_95 dX0_couldHold_96 rfl (fun h95 => ?_) (fun h95 => ?_)
    · skip
      refine lv_iconst (v := nI 0) E.1 E.2.1 dX0_couldHold_103 rfl ?_
      exact e_z E hr hlk (show _ = _ from congrArg bI (show false = _ from by simp [cH, h95])) dX0_couldHold_104
    · skip
      refine lv_iconst (v := nI 1) E.1 E.2.1 dX0_couldHold_99 rfl ?_
      refine lv_goto (tgt := 104) E.1 E.2.1 dX0_couldHold_100 rfl ?_
      exact e_z E hr hlk (show _ = _ from congrArg bI (show true = _ from by simp [cH, h95])) dX0_couldHold_104
  · skip
    refine lv_tableOut (tgt := 105) E.1 E.2.1 dX0_couldHold_1 (by decide) rfl ?_
    refine lv_lload_n E.1 E.2.1 dX0_couldHold_105 rfl (lv_at hl 2 rfl) ?_
    refine lv_lload_n E.1 E.2.1 dX0_couldHold_106 rfl (lv_at hl 1 rfl) ?_
    refine l_if_ne (tgt := 118) E dX0_couldHold_107 dX0_couldHold_108 rfl (fun h107 => ?_) (fun h107 => ?_)
    · skip
      refine lv_iconst (v := nI 1) E.1 E.2.1 dX0_couldHold_118 rfl ?_
      refine lv_goto (tgt := 123) E.1 E.2.1 dX0_couldHold_119 rfl ?_
      exact e_z E hr hlk (show _ = _ from congrArg bI (show true = _ from by simp [cH, h107])) dX0_couldHold_123
    · skip
      refine lv_lload E.1 E.2.1 dX0_couldHold_111 (lv_at hl 3 rfl) ?_
      refine lv_lload_n E.1 E.2.1 dX0_couldHold_113 rfl (lv_at hl 1 rfl) ?_
      refine l_if_eq (tgt := 122) E dX0_couldHold_114 dX0_couldHold_115 rfl (fun h114 => ?_) (fun h114 => ?_)
      · skip
        refine lv_iconst (v := nI 0) E.1 E.2.1 dX0_couldHold_122 rfl ?_
        exact e_z E hr hlk (show _ = _ from congrArg bI (show false = _ from by simp [cH, h107, h114])) dX0_couldHold_123
      · skip
        refine lv_iconst (v := nI 1) E.1 E.2.1 dX0_couldHold_118 rfl ?_
        refine lv_goto (tgt := 123) E.1 E.2.1 dX0_couldHold_119 rfl ?_
        exact e_z E hr hlk (show _ = _ from congrArg bI (show true = _ from by simp [cH, h107, h114])) dX0_couldHold_123
set_option maxHeartbeats 4000000 in
set_option maxRecDepth 100000 in
theorem cX_isChosen (l : Launch) (D : va_G) (ad : Nat → Nat) (ca : Nat → ClassId) (T : Nat → Nat → Int64) (n : Nat) (kc ko : Nat → Nat) (kv : Nat → Int64) (k : Nat) (lo hi : Nat → Int64) (bw bb pk : Nat → Nat) (r : Nat) (hIK : iK kc ko k) (hr0 : r < 128) : Met l yX0_isChosen (wA yX0_isChosen cX0_isChosen 5 (some .boolean)) (rN 1) (va_Pc [.ref (ad 0), .int (nI r)] (pW D c2 (tX ca) (wX ad ca T n kc ko kv k lo hi bw bb pk))) (vp_Si (fun z => z = bI (ch T kc ko kv k r))) 0 0 (fun _ => False) := by
  refine met_of RX0 rfl (by decide) (Nat.le_of_ble_eq_true rfl) (fun p e s m below meth cd ls E hr hlk _ hB hl => ?_)
  obtain ⟨hP, hK⟩ := hB
  have hl : lv_has ls 5 [(0, .ref (ad 0)), (1, .int (nI r))] := hl
  obtain ⟨hk, hkc, hko⟩ := id hIK
  refine lv_iconst (v := nI 0) E.1 E.2.1 dX0_isChosen_0 rfl ?_
  refine lv_istore_n (lv' := [(2, .int (nI 0)), (0, .ref (ad 0)), (1, .int (nI r))]) E.1 E.2.1 dX0_isChosen_1 rfl hl (by decide) rfl (fun ls hl => ?_)
  refine w_lp1 (fun (j : Nat) => j ≤ k ∧ al (fun i => hO (ko i) (T r (kc i)) (kv i)) j = true) (fun (j : Nat) => k - j) (fun (j : Nat) => [(2, .int (nI j)), (0, .ref (ad 0)), (1, .int (nI r))]) 0 (⟨Nat.zero_le _, rfl⟩) (lv_sub hl [0, 1, 2] rfl) (fun j ls hI hl ih2 => ?_)
  have hl : lv_has ls 5 [(2, .int (nI j)), (0, .ref (ad 0)), (1, .int (nI r))] := hl
  obtain ⟨hj, hc⟩ := hI
  refine lv_iload_n E.1 E.2.1 dX0_isChosen_2 rfl (lv_at hl 0 rfl) ?_
  refine lv_aload_n E.1 E.2.1 dX0_isChosen_3 rfl (lv_at hl 1 rfl) ?_
  refine n_get E inX hK hP 0 rfl rfl 5 (by decide) flX_27 rfl rfl dX0_isChosen_4 ?_
  refine n_icmp_ge (tgt := 54) E dX0_isChosen_7 rfl (by omega) (by omega) (fun h7 => ?_) (fun h7 => ?_)
  · skip
    refine lv_iconst (v := nI 1) E.1 E.2.1 dX0_isChosen_54 rfl ?_
    exact e_z E hr hlk (show _ = _ from congrArg bI (show true = _ from by rw [show k = j by omega]; exact hc.symm)) dX0_isChosen_55
  · skip
    refine lv_aload_n E.1 E.2.1 dX0_isChosen_10 rfl (lv_at hl 1 rfl) ?_
    refine n_get E inX hK hP 0 rfl rfl 0 (by decide) flX_9 rfl rfl dX0_isChosen_11 ?_
    refine lv_iload_n E.1 E.2.1 dX0_isChosen_14 rfl (lv_at hl 2 rfl) ?_
    refine lv_aload_n E.1 E.2.1 dX0_isChosen_15 rfl (lv_at hl 1 rfl) ?_
    refine n_get E inX hK hP 0 rfl rfl 2 (by decide) flX_17 rfl rfl dX0_isChosen_16 ?_
    refine lv_iload_n E.1 E.2.1 dX0_isChosen_19 rfl (lv_at hl 0 rfl) ?_
    have hq := hkc j
    refine n_iald E hK hP 2 1 rfl rfl (by decide) (by omega) dX0_isChosen_20 ?_
    refine cS_i E (As := [.int (nI r), .int (nI (kc j))]) (rest := [.ref (ad 1)]) (cX_spot l r (kc j)) kX_52 rfl rfl ⟨Nat.le_of_ble_eq_true rfl, Nat.le_of_ble_eq_true rfl⟩ rfl hl.1 rfl (Nat.le_of_ble_eq_true rfl) dX0_isChosen_21 ⟨Nat.zero_le _, Nat.zero_le _⟩ ?_
    refine n_cald E hK hP 1 0 rfl rfl r (kc j) (by omega) (by omega) (by omega) dX0_isChosen_24 ?_
    refine lv_lstore_n (lv' := [(3, .long (T r (kc j))), (2, .int (nI j)), (0, .ref (ad 0)), (1, .int (nI r))]) E.1 E.2.1 dX0_isChosen_25 rfl hl (by decide) rfl (fun ls hl => ?_)
    refine lv_aload_n E.1 E.2.1 dX0_isChosen_26 rfl (lv_at hl 2 rfl) ?_
    refine n_get E inX hK hP 0 rfl rfl 3 (by decide) flX_21 rfl rfl dX0_isChosen_27 ?_
    refine lv_iload_n E.1 E.2.1 dX0_isChosen_30 rfl (lv_at hl 1 rfl) ?_
    refine n_iald E hK hP 3 2 rfl rfl (by decide) (by omega) dX0_isChosen_31 ?_
    refine lv_aload_n E.1 E.2.1 dX0_isChosen_32 rfl (lv_at hl 2 rfl) ?_
    refine n_get E inX hK hP 0 rfl rfl 4 (by decide) flX_24 rfl rfl dX0_isChosen_33 ?_
    refine lv_iload_n E.1 E.2.1 dX0_isChosen_36 rfl (lv_at hl 1 rfl) ?_
    refine n_lald E hK hP 4 3 rfl rfl (by decide) (by omega) dX0_isChosen_37 ?_
    refine lv_lload_n E.1 E.2.1 dX0_isChosen_38 rfl (lv_at hl 0 rfl) ?_
    refine lv_lload_n E.1 E.2.1 dX0_isChosen_39 rfl (lv_at hl 0 rfl) ?_
    refine cS_i E (As := [.int (nI (ko j)), .long (kv j), .long (T r (kc j)), .long (T r (kc j))]) (rest := []) (cX_couldHold l (ko j) (kv j) (T r (kc j)) (T r (kc j)) (hko j)) kX_151 rfl rfl ⟨Nat.le_of_ble_eq_true rfl, Nat.le_of_ble_eq_true rfl⟩ rfl hl.1 rfl (Nat.le_of_ble_eq_true rfl) dX0_isChosen_40 ⟨Nat.zero_le _, Nat.zero_le _⟩ ?_
    refine b_if_ne (tgt := 48) E dX0_isChosen_43 rfl (fun h43 => ?_) (fun h43 => ?_)
    · skip
      refine lv_iinc (k := 1) (v := nI (j + 1)) (lv' := [(2, .int (nI (j + 1))), (3, .long (T r (kc j))), (0, .ref (ad 0)), (1, .int (nI r))]) E.1 E.2.1 dX0_isChosen_48 hl rfl (inc1 _) (by decide) rfl (fun ls hl => ?_)
      refine lv_goto (tgt := 2) E.1 E.2.1 dX0_isChosen_51 rfl ?_
      exact ih2 (j + 1) _ (⟨by omega, al_s hc ((cH_one _ _ _).symm.trans h43)⟩) (by omega) (lv_sub hl [0, 2, 3] rfl)
    · skip
      refine lv_iconst (v := nI 0) E.1 E.2.1 dX0_isChosen_46 rfl ?_
      exact e_z E hr hlk (show _ = _ from congrArg bI (show false = _ from (al_false h7 ((cH_one _ _ _).symm.trans h43)).symm)) dX0_isChosen_47
set_option maxHeartbeats 4000000 in
set_option maxRecDepth 100000 in
theorem cX_isPassedOver (l : Launch) (D : va_G) (ad : Nat → Nat) (ca : Nat → ClassId) (T : Nat → Nat → Int64) (n : Nat) (kc ko : Nat → Nat) (kv : Nat → Int64) (k : Nat) (lo hi : Nat → Int64) (bw bb pk : Nat → Nat) (b : Nat) (hIK : iK kc ko k) (hn128 : n ≤ 128) (hb0 : b < 1000) : Met l yX0_isPassedOver (wA yX0_isPassedOver cX0_isPassedOver 4 (some .boolean)) (rN 1) (va_Pc [.ref (ad 0), .int (nI b)] (pW D c2 (tX ca) (wX ad ca T n kc ko kv k lo hi bw bb pk))) (vp_Si (fun z => z = bI (po n kc ko kv k lo hi b))) 0 0 (fun _ => False) := by
  refine met_of RX0 rfl (by decide) (Nat.le_of_ble_eq_true rfl) (fun p e s m below meth cd ls E hr hlk _ hB hl => ?_)
  obtain ⟨hP, hK⟩ := hB
  have hl : lv_has ls 4 [(0, .ref (ad 0)), (1, .int (nI b))] := hl
  obtain ⟨hk, hkc, hko⟩ := id hIK
  refine lv_iload_n E.1 E.2.1 dX0_isPassedOver_0 rfl (lv_at hl 1 rfl) ?_
  refine lv_aload_n E.1 E.2.1 dX0_isPassedOver_1 rfl (lv_at hl 0 rfl) ?_
  refine cV_i E (As := []) (rest := [.int (nI b)]) (cX_fullBlocks l D ad ca T n kc ko kv k lo hi bw bb pk (by omega)) kX_135 hK hP 0 rfl rfl rfl rfl ⟨Nat.le_of_ble_eq_true rfl, Nat.le_of_ble_eq_true rfl⟩ rfl hl.1 rfl (Nat.le_of_ble_eq_true rfl) dX0_isPassedOver_2 ⟨Nat.zero_le _, Nat.zero_le _⟩ ?_
  refine n_icmp_lt (tgt := 10) E dX0_isPassedOver_5 rfl (by omega) (by omega) (fun h5 => ?_) (fun h5 => ?_)
  · skip
    refine lv_iconst (v := nI 0) E.1 E.2.1 dX0_isPassedOver_10 rfl ?_
    refine lv_istore_n (lv' := [(2, .int (nI 0)), (0, .ref (ad 0)), (1, .int (nI b))]) E.1 E.2.1 dX0_isPassedOver_11 rfl hl (by decide) rfl (fun ls hl => ?_)
    refine w_lp1 (fun (j : Nat) => j ≤ k ∧ al (fun i => cH (ko i) (kv i) (lo (b * 4 + kc i)) (hi (b * 4 + kc i))) j = true) (fun (j : Nat) => k - j) (fun (j : Nat) => [(2, .int (nI j)), (0, .ref (ad 0)), (1, .int (nI b))]) 0 (⟨Nat.zero_le _, rfl⟩) (lv_sub hl [0, 1, 2] rfl) (fun j ls hI hl ih12 => ?_)
    have hl : lv_has ls 4 [(2, .int (nI j)), (0, .ref (ad 0)), (1, .int (nI b))] := hl
    obtain ⟨hj, hc⟩ := hI
    refine lv_iload_n E.1 E.2.1 dX0_isPassedOver_12 rfl (lv_at hl 0 rfl) ?_
    refine lv_aload_n E.1 E.2.1 dX0_isPassedOver_13 rfl (lv_at hl 1 rfl) ?_
    refine n_get E inX hK hP 0 rfl rfl 5 (by decide) flX_27 rfl rfl dX0_isPassedOver_14 ?_
    refine n_icmp_ge (tgt := 69) E dX0_isPassedOver_17 rfl (by omega) (by omega) (fun h17 => ?_) (fun h17 => ?_)
    · skip
      refine lv_iconst (v := nI 0) E.1 E.2.1 dX0_isPassedOver_69 rfl ?_
      exact e_z E hr hlk (show _ = _ from congrArg bI (show false = _ from by rw [po_lt h5, show k = j by omega, hc]; rfl)) dX0_isPassedOver_70
    · skip
      refine lv_iload_n E.1 E.2.1 dX0_isPassedOver_20 rfl (lv_at hl 2 rfl) ?_
      refine lv_aload_n E.1 E.2.1 dX0_isPassedOver_21 rfl (lv_at hl 1 rfl) ?_
      refine n_get E inX hK hP 0 rfl rfl 2 (by decide) flX_17 rfl rfl dX0_isPassedOver_22 ?_
      refine lv_iload_n E.1 E.2.1 dX0_isPassedOver_25 rfl (lv_at hl 0 rfl) ?_
      have hq := hkc j
      refine n_iald E hK hP 2 1 rfl rfl (by decide) (by omega) dX0_isPassedOver_26 ?_
      refine cS_i E (As := [.int (nI b), .int (nI (kc j))]) (rest := []) (cX_place l b (kc j)) kX_123 rfl rfl ⟨Nat.le_of_ble_eq_true rfl, Nat.le_of_ble_eq_true rfl⟩ rfl hl.1 rfl (Nat.le_of_ble_eq_true rfl) dX0_isPassedOver_27 ⟨Nat.zero_le _, Nat.zero_le _⟩ ?_
      refine lv_istore_n (lv' := [(3, .int (nI (b * 4 + (kc j)))), (2, .int (nI j)), (0, .ref (ad 0)), (1, .int (nI b))]) E.1 E.2.1 dX0_isPassedOver_30 rfl hl (by decide) rfl (fun ls hl => ?_)
      refine lv_aload_n E.1 E.2.1 dX0_isPassedOver_31 rfl (lv_at hl 2 rfl) ?_
      refine n_get E inX hK hP 0 rfl rfl 3 (by decide) flX_21 rfl rfl dX0_isPassedOver_32 ?_
      refine lv_iload_n E.1 E.2.1 dX0_isPassedOver_35 rfl (lv_at hl 1 rfl) ?_
      refine n_iald E hK hP 3 2 rfl rfl (by decide) (by omega) dX0_isPassedOver_36 ?_
      refine lv_aload_n E.1 E.2.1 dX0_isPassedOver_37 rfl (lv_at hl 2 rfl) ?_
      refine n_get E inX hK hP 0 rfl rfl 4 (by decide) flX_24 rfl rfl dX0_isPassedOver_38 ?_
      refine lv_iload_n E.1 E.2.1 dX0_isPassedOver_41 rfl (lv_at hl 1 rfl) ?_
      refine n_lald E hK hP 4 3 rfl rfl (by decide) (by omega) dX0_isPassedOver_42 ?_
      refine lv_aload_n E.1 E.2.1 dX0_isPassedOver_43 rfl (lv_at hl 2 rfl) ?_
      refine n_get E inX hK hP 0 rfl rfl 6 (by decide) flX_30 rfl rfl dX0_isPassedOver_44 ?_
      refine lv_iload_n E.1 E.2.1 dX0_isPassedOver_47 rfl (lv_at hl 0 rfl) ?_
      refine n_lald E hK hP 5 4 rfl rfl (by decide) (by omega) dX0_isPassedOver_48 ?_
      refine lv_aload_n E.1 E.2.1 dX0_isPassedOver_49 rfl (lv_at hl 2 rfl) ?_
      refine n_get E inX hK hP 0 rfl rfl 7 (by decide) flX_33 rfl rfl dX0_isPassedOver_50 ?_
      refine lv_iload_n E.1 E.2.1 dX0_isPassedOver_53 rfl (lv_at hl 0 rfl) ?_
      refine n_lald E hK hP 6 5 rfl rfl (by decide) (by omega) dX0_isPassedOver_54 ?_
      refine cS_i E (As := [.int (nI (ko j)), .long (kv j), .long (lo (b * 4 + (kc j))), .long (hi (b * 4 + (kc j)))]) (rest := []) (cX_couldHold l (ko j) (kv j) (lo (b * 4 + (kc j))) (hi (b * 4 + (kc j))) (hko j)) kX_151 rfl rfl ⟨Nat.le_of_ble_eq_true rfl, Nat.le_of_ble_eq_true rfl⟩ rfl hl.1 rfl (Nat.le_of_ble_eq_true rfl) dX0_isPassedOver_55 ⟨Nat.zero_le _, Nat.zero_le _⟩ ?_
      refine b_if_ne (tgt := 63) E dX0_isPassedOver_58 rfl (fun h58 => ?_) (fun h58 => ?_)
      · skip
        refine lv_iinc (k := 1) (v := nI (j + 1)) (lv' := [(2, .int (nI (j + 1))), (3, .int (nI (b * 4 + (kc j)))), (0, .ref (ad 0)), (1, .int (nI b))]) E.1 E.2.1 dX0_isPassedOver_63 hl rfl (inc1 _) (by decide) rfl (fun ls hl => ?_)
        refine lv_goto (tgt := 12) E.1 E.2.1 dX0_isPassedOver_66 rfl ?_
        exact ih12 (j + 1) _ (⟨by omega, al_s hc h58⟩) (by omega) (lv_sub hl [0, 2, 3] rfl)
      · skip
        refine lv_iconst (v := nI 1) E.1 E.2.1 dX0_isPassedOver_61 rfl ?_
        exact e_z E hr hlk (show _ = _ from congrArg bI (show true = _ from by rw [po_lt h5, al_false h17 h58]; rfl)) dX0_isPassedOver_62
  · skip
    refine lv_iconst (v := nI 0) E.1 E.2.1 dX0_isPassedOver_8 rfl ?_
    exact e_z E hr hlk (show _ = _ from congrArg bI (show false = _ from (po_ge h5).symm)) dX0_isPassedOver_9
set_option maxHeartbeats 4000000 in
set_option maxRecDepth 100000 in
theorem cX_pickFromBlock (l : Launch) (D : va_G) (ad : Nat → Nat) (ca : Nat → ClassId) (T : Nat → Nat → Int64) (n : Nat) (kc ko : Nat → Nat) (kv : Nat → Int64) (k : Nat) (lo hi : Nat → Int64) (bw bb pk : Nat → Nat) (b : Nat) (hIK : iK kc ko k) (hN : inj ad 10) (hb0 : b * 16 < n) (hn128 : n ≤ 128) (hE : En pk (ch T kc ko kv k) (b * 16)) : Met l yX0_pickFromBlock (wA yX0_pickFromBlock cX0_pickFromBlock 6 (some .int)) (rN 2) (va_Pc [.ref (ad 0), .int (nI b), .int (nI (ct (ch T kc ko kv k) (b * 16)))] (pW D c2 (tX ca) (wX ad ca T n kc ko kv k lo hi bw bb pk))) (qI (fun z (q : Nat → Nat) => z = nI (ct (ch T kc ko kv k) (min n (b * 16 + 16))) ∧ En q (ch T kc ko kv k) (min n (b * 16 + 16))) D c2 (fun q => wX ad ca T n kc ko kv k lo hi bw bb q) (fA ad 10)) 0 0 (fA ad 10) := by
  refine met_of RX0 rfl (by decide) (Nat.le_of_ble_eq_true rfl) (fun p e s m below meth cd ls E hr hlk _ hB hl => ?_)
  obtain ⟨hP, hK⟩ := hB
  have hl : lv_has ls 6 [(0, .ref (ad 0)), (1, .int (nI b)), (2, .int (nI (ct (ch T kc ko kv k) (b * 16))))] := hl
  have hS : va_S (fA ad 10) s.heap s.heap [] := va_S.rf
  refine lv_iload_n E.1 E.2.1 dX0_pickFromBlock_0 rfl (lv_at hl 2 rfl) ?_
  refine lv_istore_n (lv' := [(3, .int (nI (ct (ch T kc ko kv k) (b * 16)))), (0, .ref (ad 0)), (1, .int (nI b)), (2, .int (nI (ct (ch T kc ko kv k) (b * 16))))]) E.1 E.2.1 dX0_pickFromBlock_1 rfl hl (by decide) rfl (fun ls hl => ?_)
  refine lv_aload_n E.1 E.2.1 dX0_pickFromBlock_2 rfl (lv_at hl 1 rfl) ?_
  refine n_get E inX hK hP 0 rfl rfl 1 (by decide) flX_13 rfl rfl dX0_pickFromBlock_3 ?_
  refine lv_iload_n E.1 E.2.1 dX0_pickFromBlock_6 rfl (lv_at hl 2 rfl) ?_
  refine lv_iconst (v := nI 1) E.1 E.2.1 dX0_pickFromBlock_7 rfl ?_
  refine n_iadd E dX0_pickFromBlock_8 ?_
  refine lv_bipush (v := nI 16) E.1 E.2.1 dX0_pickFromBlock_9 rfl ?_
  refine n_imul E dX0_pickFromBlock_11 ?_
  refine va_mmin E.1 E.2.1 (E.2.2.1.trans hl.1.symm) E.2.2.2.1 (E.2.2.2.2 _ mi_l) (E.2.2.2.2 _ mi_s) (E.2.2.2.2 _ mt_i) (E.2.2.2.2 _ mi_c) (Nat.le_of_ble_eq_true rfl) (Nat.le_of_ble_eq_true rfl) (Nat.zero_le _) (Nat.zero_le _) dX0_pickFromBlock_12 ?_
  refine tpi (nI_min (by omega) (by omega)) ?_
  refine lv_istore (lv' := [(4, .int (nI (min n ((b + 1) * 16)))), (3, .int (nI (ct (ch T kc ko kv k) (b * 16)))), (0, .ref (ad 0)), (1, .int (nI b)), (2, .int (nI (ct (ch T kc ko kv k) (b * 16))))]) E.1 E.2.1 dX0_pickFromBlock_15 hl (by decide) rfl (fun ls hl => ?_)
  refine lv_iload_n E.1 E.2.1 dX0_pickFromBlock_17 rfl (lv_at hl 3 rfl) ?_
  refine lv_bipush (v := nI 16) E.1 E.2.1 dX0_pickFromBlock_18 rfl ?_
  refine n_imul E dX0_pickFromBlock_20 ?_
  refine lv_istore (lv' := [(5, .int (nI (b * 16))), (4, .int (nI (min n ((b + 1) * 16)))), (3, .int (nI (ct (ch T kc ko kv k) (b * 16)))), (0, .ref (ad 0)), (1, .int (nI b)), (2, .int (nI (ct (ch T kc ko kv k) (b * 16))))]) E.1 E.2.1 dX0_pickFromBlock_21 hl (by decide) rfl (fun ls hl => ?_)
  refine w_lq2 (fun (r : Nat) (q : Nat → Nat) => b * 16 ≤ r ∧ r ≤ min n ((b + 1) * 16) ∧ En q (ch T kc ko kv k) r) (fun (r : Nat) (q : Nat → Nat) => min n ((b + 1) * 16) - r) (fun (r : Nat) (q : Nat → Nat) => [(5, .int (nI r)), (4, .int (nI (min n ((b + 1) * 16)))), (3, .int (nI (ct (ch T kc ko kv k) r))), (0, .ref (ad 0))]) (fun (r : Nat) (q : Nat → Nat) H locs => va_P D c2 (wX ad ca T n kc ko kv k lo hi bw bb q) H ∧ va_S (fA ad 10) s.heap H locs) (b * 16) pk (⟨by omega, by omega, hE⟩) ⟨hP, hS⟩ (lv_sub hl [0, 1, 2, 3] rfl) (fun r q ls H locs hI hB hl ih23 => ?_)
  obtain ⟨hP, hS⟩ := hB
  have hl : lv_has ls 6 [(5, .int (nI r)), (4, .int (nI (min n ((b + 1) * 16)))), (3, .int (nI (ct (ch T kc ko kv k) r))), (0, .ref (ad 0))] := hl
  have hP : va_P D c2 (wX ad ca T n kc ko kv k lo hi bw bb q) H := hP
  obtain ⟨hr1, hr2, hE⟩ := hI
  refine lv_iload E.1 E.2.1 dX0_pickFromBlock_23 (lv_at hl 0 rfl) ?_
  refine lv_iload E.1 E.2.1 dX0_pickFromBlock_25 (lv_at hl 1 rfl) ?_
  refine n_icmp_ge (tgt := 56) E dX0_pickFromBlock_27 rfl (by omega) (by omega) (fun h27 => ?_) (fun h27 => ?_)
  · skip
    refine lv_iload_n E.1 E.2.1 dX0_pickFromBlock_56 rfl (lv_at hl 2 rfl) ?_
    exact e_wi E hr hlk hS q (⟨by rw [show min n (b * 16 + 16) = r by omega], by rw [show min n (b * 16 + 16) = r by omega]; exact hE⟩) hP dX0_pickFromBlock_57
  · skip
    refine lv_aload_n E.1 E.2.1 dX0_pickFromBlock_30 rfl (lv_at hl 3 rfl) ?_
    refine lv_iload E.1 E.2.1 dX0_pickFromBlock_31 (lv_at hl 0 rfl) ?_
    have hq := ct_le (ch T kc ko kv k) r
    refine cV_i E (As := [.int (nI r)]) (rest := []) (cX_isChosen l D ad ca T n kc ko kv k lo hi bw bb q r hIK (by omega)) kX_148 hK hP 0 rfl rfl rfl rfl ⟨Nat.le_of_ble_eq_true rfl, Nat.le_of_ble_eq_true rfl⟩ rfl hl.1 rfl (Nat.le_of_ble_eq_true rfl) dX0_pickFromBlock_33 ⟨Nat.zero_le _, Nat.zero_le _⟩ ?_
    refine b_if_eq (tgt := 50) E dX0_pickFromBlock_36 rfl (fun h36 => ?_) (fun h36 => ?_)
    · skip
      refine lv_iinc (k := 0) (v := nI (r + 1)) (lv' := [(5, .int (nI (r + 1))), (4, .int (nI (min n ((b + 1) * 16)))), (3, .int (nI (ct (ch T kc ko kv k) r))), (0, .ref (ad 0))]) E.1 E.2.1 dX0_pickFromBlock_50 hl rfl (inc1 _) (by decide) rfl (fun ls hl => ?_)
      refine lv_goto (tgt := 23) E.1 E.2.1 dX0_pickFromBlock_53 rfl ?_
      rw [← ct_f h36] at hl
      exact ih23 (r + 1) q _ _ _ (⟨by omega, by omega, en_f hE h36⟩) (by omega) ⟨hP, hS⟩ (lv_sub hl [0, 1, 2, 3] rfl)
    · skip
      refine lv_aload_n E.1 E.2.1 dX0_pickFromBlock_39 rfl (lv_at hl 3 rfl) ?_
      refine n_get E inX hK hP 0 rfl rfl 10 (by decide) flX_42 rfl rfl dX0_pickFromBlock_40 ?_
      refine lv_iload_n E.1 E.2.1 dX0_pickFromBlock_43 rfl (lv_at hl 2 rfl) ?_
      refine lv_iload E.1 E.2.1 dX0_pickFromBlock_44 (lv_at hl 0 rfl) ?_
      refine n_iast E hK hP (dW hN rfl) hS 9 8 rfl rfl (by decide) (by omega) dX0_pickFromBlock_46 (fun H locs hP hS => ?_)
      have hP : va_P D c2 (wX ad ca T n kc ko kv k lo hi bw bb (fS q (ct (ch T kc ko kv k) r) r)) H := hP
      refine lv_iinc (k := 2) (v := nI (ct (ch T kc ko kv k) r + 1)) (lv' := [(3, .int (nI (ct (ch T kc ko kv k) r + 1))), (5, .int (nI r)), (4, .int (nI (min n ((b + 1) * 16)))), (0, .ref (ad 0))]) E.1 E.2.1 dX0_pickFromBlock_47 hl rfl (inc1 _) (by decide) rfl (fun ls hl => ?_)
      refine lv_iinc (k := 1) (v := nI (r + 1)) (lv' := [(5, .int (nI (r + 1))), (3, .int (nI (ct (ch T kc ko kv k) r + 1))), (4, .int (nI (min n ((b + 1) * 16)))), (0, .ref (ad 0))]) E.1 E.2.1 dX0_pickFromBlock_50 hl rfl (inc1 _) (by decide) rfl (fun ls hl => ?_)
      refine lv_goto (tgt := 23) E.1 E.2.1 dX0_pickFromBlock_53 rfl ?_
      rw [← ct_t h36] at hl
      exact ih23 (r + 1) (fS q (ct (ch T kc ko kv k) r) r) _ _ _ (⟨by omega, by omega, en_t hE h36⟩) (by omega) ⟨hP, hS⟩ (lv_sub hl [0, 2, 1, 3] rfl)
set_option maxHeartbeats 4000000 in
set_option maxRecDepth 100000 in
theorem cX_pick (l : Launch) (D : va_G) (ad : Nat → Nat) (ca : Nat → ClassId) (T : Nat → Nat → Int64) (n : Nat) (kc ko : Nat → Nat) (kv : Nat → Int64) (k : Nat) (lo hi : Nat → Int64) (bw bb pk : Nat → Nat)  (hIK : iK kc ko k) (hN : inj ad 10) (hn128 : n ≤ 128) (hiB : iB T n lo hi) : Met l yX0_pick (wA yX0_pick cX0_pick 3 (some .int)) (rN 3) (va_Pc [.ref (ad 0)] (pW D c2 (tX ca) (wX ad ca T n kc ko kv k lo hi bw bb pk))) (qI (fun z (q : Nat → Nat) => z = nI (ct (ch T kc ko kv k) n) ∧ En q (ch T kc ko kv k) n) D c2 (fun q => wX ad ca T n kc ko kv k lo hi bw bb q) (fA ad 10)) 0 0 (fA ad 10) := by
  refine met_of RX0 rfl (by decide) (Nat.le_of_ble_eq_true rfl) (fun p e s m below meth cd ls E hr hlk _ hB hl => ?_)
  obtain ⟨hP, hK⟩ := hB
  have hl : lv_has ls 3 [(0, .ref (ad 0))] := hl
  have hS : va_S (fA ad 10) s.heap s.heap [] := va_S.rf
  refine lv_iconst (v := nI 0) E.1 E.2.1 dX0_pick_0 rfl ?_
  refine lv_istore_n (lv' := [(1, .int (nI 0)), (0, .ref (ad 0))]) E.1 E.2.1 dX0_pick_1 rfl hl (by decide) rfl (fun ls hl => ?_)
  refine lv_iconst (v := nI 0) E.1 E.2.1 dX0_pick_2 rfl ?_
  refine lv_istore_n (lv' := [(2, .int (nI 0)), (1, .int (nI 0)), (0, .ref (ad 0))]) E.1 E.2.1 dX0_pick_3 rfl hl (by decide) rfl (fun ls hl => ?_)
  refine w_lq3 (fun (b : Nat) (r : Nat) (q : Nat → Nat) => b * 16 ≤ n + 15 ∧ r = min n (b * 16) ∧ En q (ch T kc ko kv k) r) (fun (b : Nat) (r : Nat) (q : Nat → Nat) => n + 16 - b * 16) (fun (b : Nat) (r : Nat) (q : Nat → Nat) => [(2, .int (nI b)), (1, .int (nI (ct (ch T kc ko kv k) r))), (0, .ref (ad 0))]) (fun (b : Nat) (r : Nat) (q : Nat → Nat) H locs => va_P D c2 (wX ad ca T n kc ko kv k lo hi bw bb q) H ∧ va_S (fA ad 10) s.heap H locs) 0 0 pk (⟨by omega, by omega, en_0 _ _⟩) ⟨hP, hS⟩ (lv_sub hl [0, 1, 2] rfl) (fun b r q ls H locs hI hB hl ih4 => ?_)
  obtain ⟨hP, hS⟩ := hB
  have hl : lv_has ls 3 [(2, .int (nI b)), (1, .int (nI (ct (ch T kc ko kv k) r))), (0, .ref (ad 0))] := hl
  have hP : va_P D c2 (wX ad ca T n kc ko kv k lo hi bw bb q) H := hP
  obtain ⟨hr0, hr1, hE⟩ := hI
  refine lv_iload_n E.1 E.2.1 dX0_pick_4 rfl (lv_at hl 0 rfl) ?_
  refine lv_aload_n E.1 E.2.1 dX0_pick_5 rfl (lv_at hl 2 rfl) ?_
  refine cV_i E (As := []) (rest := [.int (nI b)]) (cX_startedBlocks l D ad ca T n kc ko kv k lo hi bw bb q (by omega)) kX_81 hK hP 0 rfl rfl rfl rfl ⟨Nat.le_of_ble_eq_true rfl, Nat.le_of_ble_eq_true rfl⟩ rfl hl.1 rfl (Nat.le_of_ble_eq_true rfl) dX0_pick_6 ⟨Nat.zero_le _, Nat.zero_le _⟩ ?_
  refine n_icmp_ge (tgt := 33) E dX0_pick_9 rfl (by omega) (by omega) (fun h9 => ?_) (fun h9 => ?_)
  · skip
    refine lv_iload_n E.1 E.2.1 dX0_pick_33 rfl (lv_at hl 1 rfl) ?_
    exact e_wi E hr hlk hS q (⟨by rw [show n = r by omega], by rw [show n = r by omega]; exact hE⟩) hP dX0_pick_34
  · skip
    have hb9 : b * 16 < n := by omega
    have hr9 : r = b * 16 := by omega
    subst hr9
    refine lv_aload_n E.1 E.2.1 dX0_pick_12 rfl (lv_at hl 2 rfl) ?_
    refine lv_iload_n E.1 E.2.1 dX0_pick_13 rfl (lv_at hl 0 rfl) ?_
    refine cV_i E (As := [.int (nI b)]) (rest := []) (cX_isPassedOver l D ad ca T n kc ko kv k lo hi bw bb q b hIK (by omega) (by omega)) kX_84 hK hP 0 rfl rfl rfl rfl ⟨Nat.le_of_ble_eq_true rfl, Nat.le_of_ble_eq_true rfl⟩ rfl hl.1 rfl (Nat.le_of_ble_eq_true rfl) dX0_pick_14 ⟨Nat.zero_le _, Nat.zero_le _⟩ ?_
    refine b_if_ne (tgt := 27) E dX0_pick_17 rfl (fun h17 => ?_) (fun h17 => ?_)
    · skip
      refine lv_iinc (k := 0) (v := nI (b + 1)) (lv' := [(2, .int (nI (b + 1))), (1, .int (nI (ct (ch T kc ko kv k) (b * 16)))), (0, .ref (ad 0))]) E.1 E.2.1 dX0_pick_27 hl rfl (inc1 _) (by decide) rfl (fun ls hl => ?_)
      refine lv_goto (tgt := 4) E.1 E.2.1 dX0_pick_30 rfl ?_
      have hno := po_none hiB hIK.2.1 h17
      have hfb := po_full h17
      have hE2 : En q (ch T kc ko kv k) (min n (b * 16 + 16)) := en_none hE (fun j h1 h2 => hno j (by omega) (by omega))
      rw [← ct_none (p := (ch T kc ko kv k)) (b := min n (b * 16 + 16)) (by omega) (fun j h1 h2 => hno j (by omega) (by omega))] at hl
      exact ih4 (b + 1) (min n (b * 16 + 16)) q _ _ _ (⟨by omega, by omega, hE2⟩) (by omega) ⟨hP, hS⟩ (lv_sub hl [0, 1, 2] rfl)
    · skip
      refine lv_aload_n E.1 E.2.1 dX0_pick_20 rfl (lv_at hl 2 rfl) ?_
      refine lv_iload_n E.1 E.2.1 dX0_pick_21 rfl (lv_at hl 0 rfl) ?_
      refine lv_iload_n E.1 E.2.1 dX0_pick_22 rfl (lv_at hl 1 rfl) ?_
      refine cV_wi E (As := [.int (nI b), .int (nI (ct (ch T kc ko kv k) (b * 16)))]) (rest := []) (cX_pickFromBlock l D ad ca T n kc ko kv k lo hi bw bb q b hIK hN (by omega) (by omega) hE) kX_140 hK hP hS (fun _ h => h) 0 rfl rfl rfl rfl ⟨Nat.le_of_ble_eq_true rfl, Nat.le_of_ble_eq_true rfl⟩ rfl hl.1 rfl (Nat.le_of_ble_eq_true rfl) dX0_pick_23 ⟨Nat.zero_le _, Nat.zero_le _⟩ (fun z23 u23 H locs hp23 hP _ _ hS => ?_)
      obtain ⟨hz23, hE23⟩ := hp23
      subst hz23
      have hP : va_P D c2 (wX ad ca T n kc ko kv k lo hi bw bb u23) H := hP
      refine lv_istore_n (lv' := [(1, .int (nI (ct (ch T kc ko kv k) (min n (b * 16 + 16))))), (2, .int (nI b)), (0, .ref (ad 0))]) E.1 E.2.1 dX0_pick_26 rfl hl (by decide) rfl (fun ls hl => ?_)
      refine lv_iinc (k := 1) (v := nI (b + 1)) (lv' := [(2, .int (nI (b + 1))), (1, .int (nI (ct (ch T kc ko kv k) (min n (b * 16 + 16))))), (0, .ref (ad 0))]) E.1 E.2.1 dX0_pick_27 hl rfl (inc1 _) (by decide) rfl (fun ls hl => ?_)
      refine lv_goto (tgt := 4) E.1 E.2.1 dX0_pick_30 rfl ?_
      exact ih4 (b + 1) (min n (b * 16 + 16)) u23 _ _ _ (⟨by omega, by omega, hE23⟩) (by omega) ⟨hP, hS⟩ (lv_sub hl [0, 1, 2] rfl)
set_option maxHeartbeats 4000000 in
set_option maxRecDepth 100000 in
theorem cX_blocks (l : Launch) (D : va_G) (ad : Nat → Nat) (ca : Nat → ClassId) (T : Nat → Nat → Int64) (n : Nat) (kc ko : Nat → Nat) (kv : Nat → Int64) (k : Nat) (lo hi : Nat → Int64) (bw bb pk : Nat → Nat)  (hIK : iK kc ko k) (hn128 : n ≤ 128) : Met l yX0_blocks (wA yX0_blocks cX0_blocks 3 (some .int)) (rN 2) (va_Pc [.ref (ad 0)] (pW D c2 (tX ca) (wX ad ca T n kc ko kv k lo hi bw bb pk))) (vp_Si (fun z => z = nI (ct (fun b => !po n kc ko kv k lo hi b) ((n + 16 - 1) / 16)))) 0 0 (fun _ => False) := by
  refine met_of RX0 rfl (by decide) (Nat.le_of_ble_eq_true rfl) (fun p e s m below meth cd ls E hr hlk _ hB hl => ?_)
  obtain ⟨hP, hK⟩ := hB
  have hl : lv_has ls 3 [(0, .ref (ad 0))] := hl
  refine lv_iconst (v := nI 0) E.1 E.2.1 dX0_blocks_0 rfl ?_
  refine lv_istore_n (lv' := [(1, .int (nI 0)), (0, .ref (ad 0))]) E.1 E.2.1 dX0_blocks_1 rfl hl (by decide) rfl (fun ls hl => ?_)
  refine lv_iconst (v := nI 0) E.1 E.2.1 dX0_blocks_2 rfl ?_
  refine lv_istore_n (lv' := [(2, .int (nI 0)), (1, .int (nI 0)), (0, .ref (ad 0))]) E.1 E.2.1 dX0_blocks_3 rfl hl (by decide) rfl (fun ls hl => ?_)
  refine w_lp1 (fun (b : Nat) => b ≤ (n + 16 - 1) / 16) (fun (b : Nat) => (n + 16 - 1) / 16 - b) (fun (b : Nat) => [(2, .int (nI b)), (1, .int (nI (ct (fun b => !po n kc ko kv k lo hi b) b))), (0, .ref (ad 0))]) 0 (Nat.zero_le _) (lv_sub hl [0, 1, 2] rfl) (fun b ls hI hl ih4 => ?_)
  have hl : lv_has ls 3 [(2, .int (nI b)), (1, .int (nI (ct (fun b => !po n kc ko kv k lo hi b) b))), (0, .ref (ad 0))] := hl
  refine lv_iload_n E.1 E.2.1 dX0_blocks_4 rfl (lv_at hl 0 rfl) ?_
  refine lv_aload_n E.1 E.2.1 dX0_blocks_5 rfl (lv_at hl 2 rfl) ?_
  refine cV_i E (As := []) (rest := [.int (nI b)]) (cX_startedBlocks l D ad ca T n kc ko kv k lo hi bw bb pk (by omega)) kX_81 hK hP 0 rfl rfl rfl rfl ⟨Nat.le_of_ble_eq_true rfl, Nat.le_of_ble_eq_true rfl⟩ rfl hl.1 rfl (Nat.le_of_ble_eq_true rfl) dX0_blocks_6 ⟨Nat.zero_le _, Nat.zero_le _⟩ ?_
  refine n_icmp_ge (tgt := 29) E dX0_blocks_9 rfl (by omega) (by omega) (fun h9 => ?_) (fun h9 => ?_)
  · skip
    refine lv_iload_n E.1 E.2.1 dX0_blocks_29 rfl (lv_at hl 1 rfl) ?_
    exact e_i E hr hlk (by rw [show (n + 16 - 1) / 16 = b by omega]) dX0_blocks_30
  · skip
    refine lv_aload_n E.1 E.2.1 dX0_blocks_12 rfl (lv_at hl 2 rfl) ?_
    refine lv_iload_n E.1 E.2.1 dX0_blocks_13 rfl (lv_at hl 0 rfl) ?_
    refine cV_i E (As := [.int (nI b)]) (rest := []) (cX_isPassedOver l D ad ca T n kc ko kv k lo hi bw bb pk b hIK (by omega) (by omega)) kX_84 hK hP 0 rfl rfl rfl rfl ⟨Nat.le_of_ble_eq_true rfl, Nat.le_of_ble_eq_true rfl⟩ rfl hl.1 rfl (Nat.le_of_ble_eq_true rfl) dX0_blocks_14 ⟨Nat.zero_le _, Nat.zero_le _⟩ ?_
    refine b_if_ne (tgt := 23) E dX0_blocks_17 rfl (fun h17 => ?_) (fun h17 => ?_)
    · skip
      refine lv_iinc (k := 0) (v := nI (b + 1)) (lv' := [(2, .int (nI (b + 1))), (1, .int (nI (ct (fun b => !po n kc ko kv k lo hi b) b))), (0, .ref (ad 0))]) E.1 E.2.1 dX0_blocks_23 hl rfl (inc1 _) (by decide) rfl (fun ls hl => ?_)
      refine lv_goto (tgt := 4) E.1 E.2.1 dX0_blocks_26 rfl ?_
      rw [← ct_f (p := fun b => !po n kc ko kv k lo hi b) (by rw [h17]; rfl)] at hl
      exact ih4 (b + 1) _ (by omega) (by omega) (lv_sub hl [0, 1, 2] rfl)
    · skip
      refine lv_iinc (k := 1) (v := nI (ct (fun b => !po n kc ko kv k lo hi b) b + 1)) (lv' := [(1, .int (nI (ct (fun b => !po n kc ko kv k lo hi b) b + 1))), (2, .int (nI b)), (0, .ref (ad 0))]) E.1 E.2.1 dX0_blocks_20 hl rfl (inc1 _) (by decide) rfl (fun ls hl => ?_)
      refine lv_iinc (k := 1) (v := nI (b + 1)) (lv' := [(2, .int (nI (b + 1))), (1, .int (nI (ct (fun b => !po n kc ko kv k lo hi b) b + 1))), (0, .ref (ad 0))]) E.1 E.2.1 dX0_blocks_23 hl rfl (inc1 _) (by decide) rfl (fun ls hl => ?_)
      refine lv_goto (tgt := 4) E.1 E.2.1 dX0_blocks_26 rfl ?_
      rw [← ct_t (p := fun b => !po n kc ko kv k lo hi b) (by rw [h17]; rfl)] at hl
      exact ih4 (b + 1) _ (by omega) (by omega) (lv_sub hl [0, 1, 2] rfl)
set_option maxHeartbeats 4000000 in
set_option maxRecDepth 100000 in
theorem cX_rows (l : Launch) (D : va_G) (ad : Nat → Nat) (ca : Nat → ClassId) (T : Nat → Nat → Int64) (n : Nat) (kc ko : Nat → Nat) (kv : Nat → Int64) (k : Nat) (lo hi : Nat → Int64) (bw bb pk : Nat → Nat)   : Met l yX0_rows (wA yX0_rows cX0_rows 1 (some .int)) (rN 0) (va_Pc [.ref (ad 0)] (pW D c2 (tX ca) (wX ad ca T n kc ko kv k lo hi bw bb pk))) (vp_Si (fun z => z = nI n)) 0 0 (fun _ => False) := by
  refine met_of RX0 rfl (by decide) (Nat.le_of_ble_eq_true rfl) (fun p e s m below meth cd ls E hr hlk _ hB hl => ?_)
  obtain ⟨hP, hK⟩ := hB
  have hl : lv_has ls 1 [(0, .ref (ad 0))] := hl
  refine lv_aload_n E.1 E.2.1 dX0_rows_0 rfl (lv_at hl 0 rfl) ?_
  refine n_get E inX hK hP 0 rfl rfl 1 (by decide) flX_13 rfl rfl dX0_rows_1 ?_
  exact e_i E hr hlk rfl dX0_rows_4
set_option maxHeartbeats 4000000 in
set_option maxRecDepth 100000 in
theorem cX_all (l : Launch) (D : va_G) (ad : Nat → Nat) (ca : Nat → ClassId) (T : Nat → Nat → Int64) (n : Nat) (kc ko : Nat → Nat) (kv : Nat → Int64) (k : Nat) (lo hi : Nat → Int64) (bw bb pk : Nat → Nat)  (hN : inj ad 10) : Met l yX0_all (wA yX0_all cX0_all 2 (some .int)) (rN 0) (va_Pc [.ref (ad 0)] (pW D c2 (tX ca) (wX ad ca T n kc ko kv k lo hi bw bb pk))) (qI (fun z (_ : Unit) => z = nI k) D c2 (fun _ => wX ad ca T n kc ko kv 0 lo hi bw bb pk) (fA ad 10)) 0 0 (fA ad 10) := by
  refine met_of RX0 rfl (by decide) (Nat.le_of_ble_eq_true rfl) (fun p e s m below meth cd ls E hr hlk _ hB hl => ?_)
  obtain ⟨hP, hK⟩ := hB
  have hl : lv_has ls 2 [(0, .ref (ad 0))] := hl
  have hS : va_S (fA ad 10) s.heap s.heap [] := va_S.rf
  refine lv_aload_n E.1 E.2.1 dX0_all_0 rfl (lv_at hl 0 rfl) ?_
  refine n_get E inX hK hP 0 rfl rfl 5 (by decide) flX_27 rfl rfl dX0_all_1 ?_
  refine lv_istore_n (lv' := [(1, .int (nI k)), (0, .ref (ad 0))]) E.1 E.2.1 dX0_all_4 rfl hl (by decide) rfl (fun ls hl => ?_)
  refine lv_aload_n E.1 E.2.1 dX0_all_5 rfl (lv_at hl 1 rfl) ?_
  refine lv_iconst (v := nI 0) E.1 E.2.1 dX0_all_6 rfl ?_
  refine n_put E inX tyX0 tyX0_ok nmX0 hK hP (dW hN rfl) hS 0 rfl rfl 5 (by decide) flX_27 rfl rfl (tyX0_ok 5 (by decide)) (Nat.le_of_ble_eq_true rfl) dX0_all_7 (fun H locs hP hS => ?_)
  have hP : va_P D c2 (wX ad ca T n kc ko kv 0 lo hi bw bb pk) H := hP
  refine lv_iload_n E.1 E.2.1 dX0_all_10 rfl (lv_at hl 0 rfl) ?_
  exact e_wi E hr hlk hS () rfl hP dX0_all_11
set_option maxHeartbeats 4000000 in
set_option maxRecDepth 100000 in
theorem cX_chosen (l : Launch) (D : va_G) (ad : Nat → Nat) (ca : Nat → ClassId) (T : Nat → Nat → Int64) (n : Nat) (kc ko : Nat → Nat) (kv : Nat → Int64) (k : Nat) (lo hi : Nat → Int64) (bw bb pk : Nat → Nat)  (hIK : iK kc ko k) (hN : inj ad 10) (hn128 : n ≤ 128) (hiB : iB T n lo hi) : Met l yX0_chosen (wA yX0_chosen cX0_chosen 1 (some .int)) (rN 4) (va_Pc [.ref (ad 0)] (pW D c2 (tX ca) (wX ad ca T n kc ko kv k lo hi bw bb pk))) (qI (fun z (q : Nat → Nat) => z = nI (ct (ch T kc ko kv k) n) ∧ En q (ch T kc ko kv k) n) D c2 (fun q => wX ad ca T n kc ko kv k lo hi bw bb q) (fA ad 10)) 0 0 (fA ad 10) := by
  refine met_of RX0 rfl (by decide) (Nat.le_of_ble_eq_true rfl) (fun p e s m below meth cd ls E hr hlk _ hB hl => ?_)
  obtain ⟨hP, hK⟩ := hB
  have hl : lv_has ls 1 [(0, .ref (ad 0))] := hl
  have hS : va_S (fA ad 10) s.heap s.heap [] := va_S.rf
  refine lv_aload_n E.1 E.2.1 dX0_chosen_0 rfl (lv_at hl 0 rfl) ?_
  refine cV_wi E (As := []) (rest := []) (cX_pick l D ad ca T n kc ko kv k lo hi bw bb pk hIK hN hn128 hiB) kX_75 hK hP hS (fun _ h => h) 0 rfl rfl rfl rfl ⟨Nat.le_of_ble_eq_true rfl, Nat.le_of_ble_eq_true rfl⟩ rfl hl.1 rfl (Nat.le_of_ble_eq_true rfl) dX0_chosen_1 ⟨Nat.zero_le _, Nat.zero_le _⟩ (fun z1 u1 H locs hp1 hP _ _ hS => ?_)
  obtain ⟨hz1, hE1⟩ := hp1
  subst hz1
  have hP : va_P D c2 (wX ad ca T n kc ko kv k lo hi bw bb u1) H := hP
  exact e_wi E hr hlk hS u1 (⟨rfl, hE1⟩) hP dX0_chosen_4
end
section
/-! Contracts of the hall: laid by program (wip/whole/gen.py). -/
set_option maxHeartbeats 4000000 in
set_option maxRecDepth 100000 in
theorem cX_widthOf (l : Launch) (x : Int64)  : Met l yX0_widthOf (wA yX0_widthOf cX0_widthOf 3 (some .int)) (rN 0) (va_Pc [.long x] (fun _ => True)) (vp_Si (fun z => z = nI (wd x))) 0 0 (fun _ => False) := by
  refine met_of RX0 rfl (by decide) (Nat.le_of_ble_eq_true rfl) (fun p e s m below meth cd ls E hr hlk _ hB hl => ?_)
  have hl : lv_has ls 3 [(0, .long x)] := hl
  refine lv_iconst (v := nI 0) E.1 E.2.1 dX0_widthOf_0 rfl ?_
  refine lv_istore_n (lv' := [(2, .int (nI 0)), (0, .long x)]) E.1 E.2.1 dX0_widthOf_1 rfl hl (by decide) rfl (fun ls hl => ?_)
  refine w_lp1 (fun (w : Nat) => w ≤ 64 ∧ w ≤ wd x) (fun (w : Nat) => 64 - w) (fun (w : Nat) => [(2, .int (nI w)), (0, .long x)]) 0 (⟨by omega, Nat.zero_le _⟩) (lv_sub hl [0, 1] rfl) (fun w ls hI hl ih2 => ?_)
  have hl : lv_has ls 3 [(2, .int (nI w)), (0, .long x)] := hl
  obtain ⟨hw1, hw2⟩ := hI
  refine lv_iload_n E.1 E.2.1 dX0_widthOf_2 rfl (lv_at hl 0 rfl) ?_
  refine lv_bipush (v := nI 64) E.1 E.2.1 dX0_widthOf_3 rfl ?_
  refine n_icmp_ge (tgt := 22) E dX0_widthOf_5 rfl (by omega) (by omega) (fun h5 => ?_) (fun h5 => ?_)
  · skip
    refine lv_iload_n E.1 E.2.1 dX0_widthOf_22 rfl (lv_at hl 0 rfl) ?_
    exact e_i E hr hlk (by have h64 := wd_le64 x; rw [show wd x = w by omega]) dX0_widthOf_23
  · skip
    refine lv_lload_n E.1 E.2.1 dX0_widthOf_8 rfl (lv_at hl 1 rfl) ?_
    refine lv_iload_n E.1 E.2.1 dX0_widthOf_9 rfl (lv_at hl 0 rfl) ?_
    refine lv_lushr E.1 E.2.1 dX0_widthOf_10 rfl ?_
    refine lv_lconst (v := 0) E.1 E.2.1 dX0_widthOf_11 rfl ?_
    refine l_if_eq (tgt := 22) E dX0_widthOf_12 dX0_widthOf_13 rfl (fun h12 => ?_) (fun h12 => ?_)
    · skip
      refine lv_iload_n E.1 E.2.1 dX0_widthOf_22 rfl (lv_at hl 0 rfl) ?_
      exact e_i E hr hlk (by have h64 := wd_le64 x; have hs := (wd_sh x h5).mp h12; rw [show wd x = w by omega]) dX0_widthOf_23
    · skip
      refine lv_iinc (k := 0) (v := nI (w + 1)) (lv' := [(2, .int (nI (w + 1))), (0, .long x)]) E.1 E.2.1 dX0_widthOf_16 hl rfl (inc1 _) (by decide) rfl (fun ls hl => ?_)
      refine lv_goto (tgt := 2) E.1 E.2.1 dX0_widthOf_19 rfl ?_
      exact ih2 (w + 1) _ (⟨by omega, Nat.not_le.mp (fun q => h12 ((wd_sh x h5).mpr q))⟩) (by omega) (lv_sub hl [0, 1] rfl)
set_option maxHeartbeats 4000000 in
set_option maxRecDepth 100000 in
theorem cX_stoodBefore (l : Launch) (D : va_G) (ad : Nat → Nat) (ca : Nat → ClassId) (T : Nat → Nat → Int64) (n : Nat) (kc ko : Nat → Nat) (kv : Nat → Int64) (k : Nat) (lo hi : Nat → Int64) (bw bb pk : Nat → Nat) (b c a : Nat) (hb0 : b < 8) (hc0 : c < 4) (ha0 : a < 16) : Met l yX0_stoodBefore (wA yX0_stoodBefore cX0_stoodBefore 4 (some .boolean)) (rN 0) (va_Pc [.ref (ad 0), .int (nI (c * 128 + 16 * b)), .int (nI (c * 128 + 16 * b + a))] (pW D c2 (tX ca) (wX ad ca T n kc ko kv k lo hi bw bb pk))) (vp_Si (fun z => z = bI (sb (xb T b c) a))) 0 0 (fun _ => False) := by
  refine met_of RX0 rfl (by decide) (Nat.le_of_ble_eq_true rfl) (fun p e s m below meth cd ls E hr hlk _ hB hl => ?_)
  obtain ⟨hP, hK⟩ := hB
  have hl : lv_has ls 4 [(0, .ref (ad 0)), (1, .int (nI (c * 128 + 16 * b))), (2, .int (nI (c * 128 + 16 * b + a)))] := hl
  refine lv_iload_n E.1 E.2.1 dX0_stoodBefore_0 rfl (lv_at hl 1 rfl) ?_
  refine lv_istore_n (lv' := [(3, .int (nI (c * 128 + 16 * b))), (0, .ref (ad 0)), (1, .int (nI (c * 128 + 16 * b))), (2, .int (nI (c * 128 + 16 * b + a)))]) E.1 E.2.1 dX0_stoodBefore_1 rfl hl (by decide) rfl (fun ls hl => ?_)
  refine w_lp1 (fun (j : Nat) => j ≤ a ∧ al (fun i => !decide (xb T b c i = xb T b c a)) j = true) (fun (j : Nat) => a - j) (fun (j : Nat) => [(3, .int (nI (c * 128 + 16 * b + j))), (0, .ref (ad 0)), (1, .int (nI (c * 128 + 16 * b))), (2, .int (nI (c * 128 + 16 * b + a)))]) 0 (⟨Nat.zero_le _, rfl⟩) (lv_sub hl [0, 1, 2, 3] rfl) (fun j ls hI hl ih2 => ?_)
  have hl : lv_has ls 4 [(3, .int (nI (c * 128 + 16 * b + j))), (0, .ref (ad 0)), (1, .int (nI (c * 128 + 16 * b))), (2, .int (nI (c * 128 + 16 * b + a)))] := hl
  obtain ⟨hj, hc⟩ := hI
  refine lv_iload_n E.1 E.2.1 dX0_stoodBefore_2 rfl (lv_at hl 0 rfl) ?_
  refine lv_iload_n E.1 E.2.1 dX0_stoodBefore_3 rfl (lv_at hl 3 rfl) ?_
  refine n_icmp_ge (tgt := 31) E dX0_stoodBefore_4 rfl (by omega) (by omega) (fun h4 => ?_) (fun h4 => ?_)
  · skip
    refine lv_iconst (v := nI 0) E.1 E.2.1 dX0_stoodBefore_31 rfl ?_
    exact e_z E hr hlk (show _ = _ from congrArg bI (show false = _ from by rw [sb, show a = j by omega]; rw [show a = j by omega] at hc; rw [hc]; rfl)) dX0_stoodBefore_32
  · skip
    refine lv_aload_n E.1 E.2.1 dX0_stoodBefore_7 rfl (lv_at hl 1 rfl) ?_
    refine n_get E inX hK hP 0 rfl rfl 0 (by decide) flX_9 rfl rfl dX0_stoodBefore_8 ?_
    refine lv_iload_n E.1 E.2.1 dX0_stoodBefore_11 rfl (lv_at hl 0 rfl) ?_
    refine n_cald E hK hP 1 0 rfl rfl (16 * b + j) c (by omega) (by omega) (by omega) dX0_stoodBefore_12 ?_
    refine lv_aload_n E.1 E.2.1 dX0_stoodBefore_13 rfl (lv_at hl 1 rfl) ?_
    refine n_get E inX hK hP 0 rfl rfl 0 (by decide) flX_9 rfl rfl dX0_stoodBefore_14 ?_
    refine lv_iload_n E.1 E.2.1 dX0_stoodBefore_17 rfl (lv_at hl 3 rfl) ?_
    refine n_cald E hK hP 1 0 rfl rfl (16 * b + a) c (by omega) (by omega) (by omega) dX0_stoodBefore_18 ?_
    refine l_if_ne (tgt := 25) E dX0_stoodBefore_19 dX0_stoodBefore_20 rfl (fun h19 => ?_) (fun h19 => ?_)
    · skip
      refine lv_iinc (k := 0) (v := nI (c * 128 + 16 * b + j + 1)) (lv' := [(3, .int (nI (c * 128 + 16 * b + j + 1))), (0, .ref (ad 0)), (1, .int (nI (c * 128 + 16 * b))), (2, .int (nI (c * 128 + 16 * b + a)))]) E.1 E.2.1 dX0_stoodBefore_25 hl rfl (inc1 _) (by decide) rfl (fun ls hl => ?_)
      refine lv_goto (tgt := 2) E.1 E.2.1 dX0_stoodBefore_28 rfl ?_
      exact ih2 (j + 1) _ (⟨by omega, al_s hc (nd_f h19)⟩) (by omega) (lv_sub hl [0, 1, 2, 3] rfl)
    · skip
      refine lv_iconst (v := nI 1) E.1 E.2.1 dX0_stoodBefore_23 rfl ?_
      exact e_z E hr hlk (show _ = _ from congrArg bI (show true = _ from by rw [sb, al_false (j := j) (by omega) (nd_t h19)]; rfl)) dX0_stoodBefore_24
set_option maxHeartbeats 4000000 in
set_option maxRecDepth 100000 in
theorem cX_differentCells (l : Launch) (D : va_G) (ad : Nat → Nat) (ca : Nat → ClassId) (T : Nat → Nat → Int64) (n : Nat) (kc ko : Nat → Nat) (kv : Nat → Int64) (k : Nat) (lo hi : Nat → Int64) (bw bb pk : Nat → Nat) (b c : Nat) (hb0 : b < 8) (hc0 : c < 4) : Met l yX0_differentCells (wA yX0_differentCells cX0_differentCells 4 (some .int)) (rN 1) (va_Pc [.ref (ad 0), .int (nI (c * 128 + 16 * b))] (pW D c2 (tX ca) (wX ad ca T n kc ko kv k lo hi bw bb pk))) (vp_Si (fun z => z = nI (wds (xb T b c)))) 0 0 (fun _ => False) := by
  refine met_of RX0 rfl (by decide) (Nat.le_of_ble_eq_true rfl) (fun p e s m below meth cd ls E hr hlk _ hB hl => ?_)
  obtain ⟨hP, hK⟩ := hB
  have hl : lv_has ls 4 [(0, .ref (ad 0)), (1, .int (nI (c * 128 + 16 * b)))] := hl
  refine lv_iconst (v := nI 0) E.1 E.2.1 dX0_differentCells_0 rfl ?_
  refine lv_istore_n (lv' := [(2, .int (nI 0)), (0, .ref (ad 0)), (1, .int (nI (c * 128 + 16 * b)))]) E.1 E.2.1 dX0_differentCells_1 rfl hl (by decide) rfl (fun ls hl => ?_)
  refine lv_iload_n E.1 E.2.1 dX0_differentCells_2 rfl (lv_at hl 2 rfl) ?_
  refine lv_istore_n (lv' := [(3, .int (nI (c * 128 + 16 * b))), (2, .int (nI 0)), (0, .ref (ad 0)), (1, .int (nI (c * 128 + 16 * b)))]) E.1 E.2.1 dX0_differentCells_3 rfl hl (by decide) rfl (fun ls hl => ?_)
  refine w_lp1 (fun (j : Nat) => j ≤ 16) (fun (j : Nat) => 16 - j) (fun (j : Nat) => [(3, .int (nI (c * 128 + 16 * b + j))), (2, .int (nI (ct (fun j => !sb (xb T b c) j) j))), (0, .ref (ad 0)), (1, .int (nI (c * 128 + 16 * b)))]) 0 (Nat.zero_le _) (lv_sub hl [0, 1, 2, 3] rfl) (fun j ls hI hl ih4 => ?_)
  have hl : lv_has ls 4 [(3, .int (nI (c * 128 + 16 * b + j))), (2, .int (nI (ct (fun j => !sb (xb T b c) j) j))), (0, .ref (ad 0)), (1, .int (nI (c * 128 + 16 * b)))] := hl
  refine lv_iload_n E.1 E.2.1 dX0_differentCells_4 rfl (lv_at hl 0 rfl) ?_
  refine lv_iload_n E.1 E.2.1 dX0_differentCells_5 rfl (lv_at hl 3 rfl) ?_
  refine lv_bipush (v := nI 16) E.1 E.2.1 dX0_differentCells_6 rfl ?_
  refine n_iadd E dX0_differentCells_8 ?_
  refine n_icmp_ge (tgt := 30) E dX0_differentCells_9 rfl (by omega) (by omega) (fun h9 => ?_) (fun h9 => ?_)
  · skip
    refine lv_iload_n E.1 E.2.1 dX0_differentCells_30 rfl (lv_at hl 1 rfl) ?_
    exact e_i E hr hlk (by rw [wds, show 16 = j by omega]) dX0_differentCells_31
  · skip
    have hq := ct_le (fun j => !sb (xb T b c) j) j
    refine lv_aload_n E.1 E.2.1 dX0_differentCells_12 rfl (lv_at hl 2 rfl) ?_
    refine lv_iload_n E.1 E.2.1 dX0_differentCells_13 rfl (lv_at hl 3 rfl) ?_
    refine lv_iload_n E.1 E.2.1 dX0_differentCells_14 rfl (lv_at hl 0 rfl) ?_
    refine cV_i E (As := [.int (nI (c * 128 + 16 * b)), .int (nI (c * 128 + 16 * b + j))]) (rest := []) (cX_stoodBefore l D ad ca T n kc ko kv k lo hi bw bb pk b c j (by omega) (by omega) (by omega)) kX_186 hK hP 0 rfl rfl rfl rfl ⟨Nat.le_of_ble_eq_true rfl, Nat.le_of_ble_eq_true rfl⟩ rfl hl.1 rfl (Nat.le_of_ble_eq_true rfl) dX0_differentCells_15 ⟨Nat.zero_le _, Nat.zero_le _⟩ ?_
    refine b_if_ne (tgt := 24) E dX0_differentCells_18 rfl (fun h18 => ?_) (fun h18 => ?_)
    · skip
      refine lv_iinc (k := 0) (v := nI (c * 128 + 16 * b + j + 1)) (lv' := [(3, .int (nI (c * 128 + 16 * b + j + 1))), (2, .int (nI (ct (fun j => !sb (xb T b c) j) j))), (0, .ref (ad 0)), (1, .int (nI (c * 128 + 16 * b)))]) E.1 E.2.1 dX0_differentCells_24 hl rfl (inc1 _) (by decide) rfl (fun ls hl => ?_)
      refine lv_goto (tgt := 4) E.1 E.2.1 dX0_differentCells_27 rfl ?_
      rw [← ct_f (p := fun j => !sb (xb T b c) j) (by rw [h18]; rfl)] at hl
      exact ih4 (j + 1) _ (by omega) (by omega) (lv_sub hl [0, 1, 2, 3] rfl)
    · skip
      refine lv_iinc (k := 1) (v := nI (ct (fun j => !sb (xb T b c) j) j + 1)) (lv' := [(2, .int (nI (ct (fun j => !sb (xb T b c) j) j + 1))), (3, .int (nI (c * 128 + 16 * b + j))), (0, .ref (ad 0)), (1, .int (nI (c * 128 + 16 * b)))]) E.1 E.2.1 dX0_differentCells_21 hl rfl (inc1 _) (by decide) rfl (fun ls hl => ?_)
      refine lv_iinc (k := 1) (v := nI (c * 128 + 16 * b + j + 1)) (lv' := [(3, .int (nI (c * 128 + 16 * b + j + 1))), (2, .int (nI (ct (fun j => !sb (xb T b c) j) j + 1))), (0, .ref (ad 0)), (1, .int (nI (c * 128 + 16 * b)))]) E.1 E.2.1 dX0_differentCells_24 hl rfl (inc1 _) (by decide) rfl (fun ls hl => ?_)
      refine lv_goto (tgt := 4) E.1 E.2.1 dX0_differentCells_27 rfl ?_
      rw [← ct_t (p := fun j => !sb (xb T b c) j) (by rw [h18]; rfl)] at hl
      exact ih4 (j + 1) _ (by omega) (by omega) (lv_sub hl [0, 1, 2, 3] rfl)
set_option maxHeartbeats 4000000 in
set_option maxRecDepth 100000 in
theorem cX_runsOfCells (l : Launch) (D : va_G) (ad : Nat → Nat) (ca : Nat → ClassId) (T : Nat → Nat → Int64) (n : Nat) (kc ko : Nat → Nat) (kv : Nat → Int64) (k : Nat) (lo hi : Nat → Int64) (bw bb pk : Nat → Nat) (b c : Nat) (hb0 : b < 8) (hc0 : c < 4) : Met l yX0_runsOfCells (wA yX0_runsOfCells cX0_runsOfCells 4 (some .int)) (rN 0) (va_Pc [.ref (ad 0), .int (nI (c * 128 + 16 * b))] (pW D c2 (tX ca) (wX ad ca T n kc ko kv k lo hi bw bb pk))) (vp_Si (fun z => z = nI (rns (xb T b c)))) 0 0 (fun _ => False) := by
  refine met_of RX0 rfl (by decide) (Nat.le_of_ble_eq_true rfl) (fun p e s m below meth cd ls E hr hlk _ hB hl => ?_)
  obtain ⟨hP, hK⟩ := hB
  have hl : lv_has ls 4 [(0, .ref (ad 0)), (1, .int (nI (c * 128 + 16 * b)))] := hl
  refine lv_iconst (v := nI 1) E.1 E.2.1 dX0_runsOfCells_0 rfl ?_
  refine lv_istore_n (lv' := [(2, .int (nI 1)), (0, .ref (ad 0)), (1, .int (nI (c * 128 + 16 * b)))]) E.1 E.2.1 dX0_runsOfCells_1 rfl hl (by decide) rfl (fun ls hl => ?_)
  refine lv_iload_n E.1 E.2.1 dX0_runsOfCells_2 rfl (lv_at hl 2 rfl) ?_
  refine lv_iconst (v := nI 1) E.1 E.2.1 dX0_runsOfCells_3 rfl ?_
  refine n_iadd E dX0_runsOfCells_4 ?_
  refine lv_istore_n (lv' := [(3, .int (nI (c * 128 + 16 * b + 1))), (2, .int (nI 1)), (0, .ref (ad 0)), (1, .int (nI (c * 128 + 16 * b)))]) E.1 E.2.1 dX0_runsOfCells_5 rfl hl (by decide) rfl (fun ls hl => ?_)
  refine w_lp1 (fun (j : Nat) => j ≤ 15) (fun (j : Nat) => 15 - j) (fun (j : Nat) => [(3, .int (nI (c * 128 + 16 * b + 1 + j))), (2, .int (nI (1 + ct (fun j => !decide (xb T b c (j + 1) = xb T b c j)) j))), (0, .ref (ad 0)), (1, .int (nI (c * 128 + 16 * b)))]) 0 (Nat.zero_le _) (lv_sub hl [0, 1, 2, 3] rfl) (fun j ls hI hl ih6 => ?_)
  have hl : lv_has ls 4 [(3, .int (nI (c * 128 + 16 * b + 1 + j))), (2, .int (nI (1 + ct (fun j => !decide (xb T b c (j + 1) = xb T b c j)) j))), (0, .ref (ad 0)), (1, .int (nI (c * 128 + 16 * b)))] := hl
  refine lv_iload_n E.1 E.2.1 dX0_runsOfCells_6 rfl (lv_at hl 0 rfl) ?_
  refine lv_iload_n E.1 E.2.1 dX0_runsOfCells_7 rfl (lv_at hl 3 rfl) ?_
  refine lv_bipush (v := nI 16) E.1 E.2.1 dX0_runsOfCells_8 rfl ?_
  refine n_iadd E dX0_runsOfCells_10 ?_
  refine n_icmp_ge (tgt := 41) E dX0_runsOfCells_11 rfl (by omega) (by omega) (fun h11 => ?_) (fun h11 => ?_)
  · skip
    refine lv_iload_n E.1 E.2.1 dX0_runsOfCells_41 rfl (lv_at hl 1 rfl) ?_
    exact e_i E hr hlk (by rw [rns, show 15 = j by omega]) dX0_runsOfCells_42
  · skip
    have hq := ct_le (fun j => !decide (xb T b c (j + 1) = xb T b c j)) j
    refine lv_aload_n E.1 E.2.1 dX0_runsOfCells_14 rfl (lv_at hl 2 rfl) ?_
    refine n_get E inX hK hP 0 rfl rfl 0 (by decide) flX_9 rfl rfl dX0_runsOfCells_15 ?_
    refine lv_iload_n E.1 E.2.1 dX0_runsOfCells_18 rfl (lv_at hl 0 rfl) ?_
    refine n_cald E hK hP 1 0 rfl rfl (16 * b + (j + 1)) c (by omega) (by omega) (by omega) dX0_runsOfCells_19 ?_
    refine lv_aload_n E.1 E.2.1 dX0_runsOfCells_20 rfl (lv_at hl 2 rfl) ?_
    refine n_get E inX hK hP 0 rfl rfl 0 (by decide) flX_9 rfl rfl dX0_runsOfCells_21 ?_
    refine lv_iload_n E.1 E.2.1 dX0_runsOfCells_24 rfl (lv_at hl 0 rfl) ?_
    refine lv_iconst (v := nI 1) E.1 E.2.1 dX0_runsOfCells_25 rfl ?_
    refine n_isub E (by omega) dX0_runsOfCells_26 ?_
    refine n_cald E hK hP 1 0 rfl rfl (16 * b + j) c (by omega) (by omega) (by omega) dX0_runsOfCells_27 ?_
    refine l_if_eq (tgt := 35) E dX0_runsOfCells_28 dX0_runsOfCells_29 rfl (fun h28 => ?_) (fun h28 => ?_)
    · skip
      refine lv_iinc (k := 0) (v := nI (c * 128 + 16 * b + 1 + j + 1)) (lv' := [(3, .int (nI (c * 128 + 16 * b + 1 + j + 1))), (2, .int (nI (1 + ct (fun j => !decide (xb T b c (j + 1) = xb T b c j)) j))), (0, .ref (ad 0)), (1, .int (nI (c * 128 + 16 * b)))]) E.1 E.2.1 dX0_runsOfCells_35 hl rfl (inc1 _) (by decide) rfl (fun ls hl => ?_)
      refine lv_goto (tgt := 6) E.1 E.2.1 dX0_runsOfCells_38 rfl ?_
      rw [← ct_f (p := fun j => !decide (xb T b c (j + 1) = xb T b c j)) (nd_t h28)] at hl
      exact ih6 (j + 1) _ (by omega) (by omega) (lv_sub hl [0, 1, 2, 3] rfl)
    · skip
      refine lv_iinc (k := 1) (v := nI (1 + ct (fun j => !decide (xb T b c (j + 1) = xb T b c j)) j + 1)) (lv' := [(2, .int (nI (1 + ct (fun j => !decide (xb T b c (j + 1) = xb T b c j)) j + 1))), (3, .int (nI (c * 128 + 16 * b + 1 + j))), (0, .ref (ad 0)), (1, .int (nI (c * 128 + 16 * b)))]) E.1 E.2.1 dX0_runsOfCells_32 hl rfl (inc1 _) (by decide) rfl (fun ls hl => ?_)
      refine lv_iinc (k := 1) (v := nI (c * 128 + 16 * b + 1 + j + 1)) (lv' := [(3, .int (nI (c * 128 + 16 * b + 1 + j + 1))), (2, .int (nI (1 + ct (fun j => !decide (xb T b c (j + 1) = xb T b c j)) j + 1))), (0, .ref (ad 0)), (1, .int (nI (c * 128 + 16 * b)))]) E.1 E.2.1 dX0_runsOfCells_35 hl rfl (inc1 _) (by decide) rfl (fun ls hl => ?_)
      refine lv_goto (tgt := 6) E.1 E.2.1 dX0_runsOfCells_38 rfl ?_
      rw [Nat.add_assoc 1, ← ct_t (p := fun j => !decide (xb T b c (j + 1) = xb T b c j)) (nd_f h28)] at hl
      exact ih6 (j + 1) _ (by omega) (by omega) (lv_sub hl [0, 1, 2, 3] rfl)
set_option maxHeartbeats 4000000 in
set_option maxRecDepth 100000 in
theorem cX_noteBounds (l : Launch) (D : va_G) (ad : Nat → Nat) (ca : Nat → ClassId) (T : Nat → Nat → Int64) (n : Nat) (kc ko : Nat → Nat) (kv : Nat → Int64) (k : Nat) (lo hi : Nat → Int64) (bw bb pk : Nat → Nat) (b c : Nat) (hN : inj ad 10) (hb0 : b < 8) (hc0 : c < 4) : Met l yX0_noteBounds (wA yX0_noteBounds cX0_noteBounds 8 none) (rN 1) (va_Pc [.ref (ad 0), .int (nI (c * 128 + 16 * b)), .int (nI (b * 4 + c))] (pW D c2 (tX ca) (wX ad ca T n kc ko kv k lo hi bw bb pk))) (qV (fun (_ : Unit) => True) D c2 (fun _ => wX ad ca T n kc ko kv k (fS lo (b * 4 + c) (mn (xb T b c) 15)) (fS hi (b * 4 + c) (mx (xb T b c) 15)) bw bb pk) (fA ad 10)) 0 0 (fA ad 10) := by
  refine met_of RX0 rfl (by decide) (Nat.le_of_ble_eq_true rfl) (fun p e s m below meth cd ls E hr hlk _ hB hl => ?_)
  obtain ⟨hP, hK⟩ := hB
  have hl : lv_has ls 8 [(0, .ref (ad 0)), (1, .int (nI (c * 128 + 16 * b))), (2, .int (nI (b * 4 + c)))] := hl
  have hS : va_S (fA ad 10) s.heap s.heap [] := va_S.rf
  refine lv_aload_n E.1 E.2.1 dX0_noteBounds_0 rfl (lv_at hl 0 rfl) ?_
  refine n_get E inX hK hP 0 rfl rfl 0 (by decide) flX_9 rfl rfl dX0_noteBounds_1 ?_
  refine lv_iload_n E.1 E.2.1 dX0_noteBounds_4 rfl (lv_at hl 1 rfl) ?_
  refine n_cald E hK hP 1 0 rfl rfl (16 * b + 0) c (by omega) (by omega) (by omega) dX0_noteBounds_5 ?_
  refine lv_lstore_n (lv' := [(3, .long (T (16 * b + 0) c)), (0, .ref (ad 0)), (1, .int (nI (c * 128 + 16 * b))), (2, .int (nI (b * 4 + c)))]) E.1 E.2.1 dX0_noteBounds_6 rfl hl (by decide) rfl (fun ls hl => ?_)
  refine lv_aload_n E.1 E.2.1 dX0_noteBounds_7 rfl (lv_at hl 1 rfl) ?_
  refine n_get E inX hK hP 0 rfl rfl 0 (by decide) flX_9 rfl rfl dX0_noteBounds_8 ?_
  refine lv_iload_n E.1 E.2.1 dX0_noteBounds_11 rfl (lv_at hl 2 rfl) ?_
  refine n_cald E hK hP 1 0 rfl rfl (16 * b + 0) c (by omega) (by omega) (by omega) dX0_noteBounds_12 ?_
  refine lv_lstore (lv' := [(5, .long (T (16 * b + 0) c)), (3, .long (T (16 * b + 0) c)), (0, .ref (ad 0)), (1, .int (nI (c * 128 + 16 * b))), (2, .int (nI (b * 4 + c)))]) E.1 E.2.1 dX0_noteBounds_13 hl (by decide) rfl (fun ls hl => ?_)
  refine lv_iload_n E.1 E.2.1 dX0_noteBounds_15 rfl (lv_at hl 3 rfl) ?_
  refine lv_iconst (v := nI 1) E.1 E.2.1 dX0_noteBounds_16 rfl ?_
  refine n_iadd E dX0_noteBounds_17 ?_
  refine lv_istore (lv' := [(7, .int (nI (c * 128 + 16 * b + 1))), (5, .long (T (16 * b + 0) c)), (3, .long (T (16 * b + 0) c)), (0, .ref (ad 0)), (1, .int (nI (c * 128 + 16 * b))), (2, .int (nI (b * 4 + c)))]) E.1 E.2.1 dX0_noteBounds_18 hl (by decide) rfl (fun ls hl => ?_)
  refine w_lp1 (fun (j : Nat) => j ≤ 15) (fun (j : Nat) => 15 - j) (fun (j : Nat) => [(7, .int (nI (c * 128 + 16 * b + 1 + j))), (5, .long (mx (xb T b c) j)), (3, .long (mn (xb T b c) j)), (0, .ref (ad 0)), (1, .int (nI (c * 128 + 16 * b))), (2, .int (nI (b * 4 + c)))]) 0 (Nat.zero_le _) (lv_sub hl [0, 1, 2, 3, 4, 5] rfl) (fun j ls hI hl ih20 => ?_)
  have hl : lv_has ls 8 [(7, .int (nI (c * 128 + 16 * b + 1 + j))), (5, .long (mx (xb T b c) j)), (3, .long (mn (xb T b c) j)), (0, .ref (ad 0)), (1, .int (nI (c * 128 + 16 * b))), (2, .int (nI (b * 4 + c)))] := hl
  refine lv_iload E.1 E.2.1 dX0_noteBounds_20 (lv_at hl 0 rfl) ?_
  refine lv_iload_n E.1 E.2.1 dX0_noteBounds_22 rfl (lv_at hl 4 rfl) ?_
  refine lv_bipush (v := nI 16) E.1 E.2.1 dX0_noteBounds_23 rfl ?_
  refine n_iadd E dX0_noteBounds_25 ?_
  refine n_icmp_ge (tgt := 61) E dX0_noteBounds_26 rfl (by omega) (by omega) (fun h26 => ?_) (fun h26 => ?_)
  · skip
    refine lv_aload_n E.1 E.2.1 dX0_noteBounds_61 rfl (lv_at hl 3 rfl) ?_
    refine n_get E inX hK hP 0 rfl rfl 6 (by decide) flX_30 rfl rfl dX0_noteBounds_62 ?_
    refine lv_iload_n E.1 E.2.1 dX0_noteBounds_65 rfl (lv_at hl 5 rfl) ?_
    refine lv_lload_n E.1 E.2.1 dX0_noteBounds_66 rfl (lv_at hl 2 rfl) ?_
    refine n_last E hK hP (dW hN rfl) hS 5 4 rfl rfl (by decide) (by omega) dX0_noteBounds_67 (fun H locs hP hS => ?_)
    have hP : va_P D c2 (wX ad ca T n kc ko kv k (fS lo (b * 4 + c) (mn (xb T b c) j)) hi bw bb pk) H := hP
    refine lv_aload_n E.1 E.2.1 dX0_noteBounds_68 rfl (lv_at hl 3 rfl) ?_
    refine n_get E inX hK hP 0 rfl rfl 7 (by decide) flX_33 rfl rfl dX0_noteBounds_69 ?_
    refine lv_iload_n E.1 E.2.1 dX0_noteBounds_72 rfl (lv_at hl 5 rfl) ?_
    refine lv_lload E.1 E.2.1 dX0_noteBounds_73 (lv_at hl 1 rfl) ?_
    refine n_last E hK hP (dW hN rfl) hS 6 5 rfl rfl (by decide) (by omega) dX0_noteBounds_75 (fun H locs hP hS => ?_)
    have hP : va_P D c2 (wX ad ca T n kc ko kv k (fS lo (b * 4 + c) (mn (xb T b c) j)) (fS hi (b * 4 + c) (mx (xb T b c) j)) bw bb pk) H := hP
    exact e_wv E hr hlk hS () trivial (by rw [show j = 15 by omega] at hP; exact hP) dX0_noteBounds_76
  · skip
    refine lv_lload_n E.1 E.2.1 dX0_noteBounds_29 rfl (lv_at hl 2 rfl) ?_
    refine lv_aload_n E.1 E.2.1 dX0_noteBounds_30 rfl (lv_at hl 3 rfl) ?_
    refine n_get E inX hK hP 0 rfl rfl 0 (by decide) flX_9 rfl rfl dX0_noteBounds_31 ?_
    refine lv_iload E.1 E.2.1 dX0_noteBounds_34 (lv_at hl 0 rfl) ?_
    refine n_cald E hK hP 1 0 rfl rfl (16 * b + (j + 1)) c (by omega) (by omega) (by omega) dX0_noteBounds_36 ?_
    refine va_mmin_long E.1 E.2.1 (E.2.2.1.trans hl.1.symm) E.2.2.2.1 (E.2.2.2.2 _ ml_l) (E.2.2.2.2 _ ml_s) (E.2.2.2.2 _ mt_i) (E.2.2.2.2 _ ml_c) (Nat.le_of_ble_eq_true rfl) (Nat.le_of_ble_eq_true rfl) (Nat.zero_le _) (Nat.zero_le _) dX0_noteBounds_37 ?_
    refine lv_lstore_n (lv' := [(3, .long (if T (16 * b + (j + 1)) c < mn (xb T b c) j then T (16 * b + (j + 1)) c else mn (xb T b c) j)), (7, .int (nI (c * 128 + 16 * b + 1 + j))), (5, .long (mx (xb T b c) j)), (0, .ref (ad 0)), (1, .int (nI (c * 128 + 16 * b))), (2, .int (nI (b * 4 + c)))]) E.1 E.2.1 dX0_noteBounds_40 rfl hl (by decide) rfl (fun ls hl => ?_)
    refine lv_lload E.1 E.2.1 dX0_noteBounds_41 (lv_at hl 2 rfl) ?_
    refine lv_aload_n E.1 E.2.1 dX0_noteBounds_43 rfl (lv_at hl 3 rfl) ?_
    refine n_get E inX hK hP 0 rfl rfl 0 (by decide) flX_9 rfl rfl dX0_noteBounds_44 ?_
    refine lv_iload E.1 E.2.1 dX0_noteBounds_47 (lv_at hl 1 rfl) ?_
    refine n_cald E hK hP 1 0 rfl rfl (16 * b + (j + 1)) c (by omega) (by omega) (by omega) dX0_noteBounds_49 ?_
    refine va_mmax_long E.1 E.2.1 (E.2.2.1.trans hl.1.symm) E.2.2.2.1 (E.2.2.2.2 _ mxl_l) (E.2.2.2.2 _ mxl_s) (E.2.2.2.2 _ mt_i) (E.2.2.2.2 _ mxl_c) (Nat.le_of_ble_eq_true rfl) (Nat.le_of_ble_eq_true rfl) (Nat.zero_le _) (Nat.zero_le _) dX0_noteBounds_50 ?_
    refine lv_lstore (lv' := [(5, .long (if T (16 * b + (j + 1)) c < mx (xb T b c) j then mx (xb T b c) j else T (16 * b + (j + 1)) c)), (3, .long (if T (16 * b + (j + 1)) c < mn (xb T b c) j then T (16 * b + (j + 1)) c else mn (xb T b c) j)), (7, .int (nI (c * 128 + 16 * b + 1 + j))), (0, .ref (ad 0)), (1, .int (nI (c * 128 + 16 * b))), (2, .int (nI (b * 4 + c)))]) E.1 E.2.1 dX0_noteBounds_53 hl (by decide) rfl (fun ls hl => ?_)
    refine lv_iinc (k := 2) (v := nI (c * 128 + 16 * b + 1 + j + 1)) (lv' := [(7, .int (nI (c * 128 + 16 * b + 1 + j + 1))), (5, .long (if T (16 * b + (j + 1)) c < mx (xb T b c) j then mx (xb T b c) j else T (16 * b + (j + 1)) c)), (3, .long (if T (16 * b + (j + 1)) c < mn (xb T b c) j then T (16 * b + (j + 1)) c else mn (xb T b c) j)), (0, .ref (ad 0)), (1, .int (nI (c * 128 + 16 * b))), (2, .int (nI (b * 4 + c)))]) E.1 E.2.1 dX0_noteBounds_55 hl rfl (inc1 _) (by decide) rfl (fun ls hl => ?_)
    refine lv_goto (tgt := 20) E.1 E.2.1 dX0_noteBounds_58 rfl ?_
    exact ih20 (j + 1) _ (by omega) (by omega) (lv_sub hl [0, 1, 2, 3, 4, 5] rfl)
set_option maxHeartbeats 4000000 in
set_option maxRecDepth 100000 in
theorem cX_offerWay (l : Launch) (D : va_G) (ad : Nat → Nat) (ca : Nat → ClassId) (T : Nat → Nat → Int64) (n : Nat) (kc ko : Nat → Nat) (kv : Nat → Int64) (k : Nat) (lo hi : Nat → Int64) (bw bb pk : Nat → Nat) (p0 : Nat) (a : Nat × Nat) (w z : Nat) (hN : inj ad 10) (hp0 : p0 < 32) (hz : z < 100000) (ha : a.2 < 100000) : Met l yX0_offerWay (wA yX0_offerWay cX0_offerWay 4 none) (rN 0) (va_Pc [.ref (ad 0), .int (nI p0), .int (nI w), .int (nI z)] (pW D c2 (tX ca) (wX ad ca T n kc ko kv k lo hi (fS bw p0 a.1) (fS bb p0 a.2) pk))) (qV (fun (_ : Unit) => True) D c2 (fun _ => wX ad ca T n kc ko kv k lo hi (fS bw p0 (stp a w z).1) (fS bb p0 (stp a w z).2) pk) (fA ad 10)) 0 0 (fA ad 10) := by
  refine met_of RX0 rfl (by decide) (Nat.le_of_ble_eq_true rfl) (fun p e s m below meth cd ls E hr hlk _ hB hl => ?_)
  obtain ⟨hP, hK⟩ := hB
  have hl : lv_has ls 4 [(0, .ref (ad 0)), (1, .int (nI p0)), (2, .int (nI w)), (3, .int (nI z))] := hl
  have hS : va_S (fA ad 10) s.heap s.heap [] := va_S.rf
  refine lv_iload_n E.1 E.2.1 dX0_offerWay_0 rfl (lv_at hl 3 rfl) ?_
  refine lv_aload_n E.1 E.2.1 dX0_offerWay_1 rfl (lv_at hl 0 rfl) ?_
  refine n_get E inX hK hP 0 rfl rfl 9 (by decide) flX_39 rfl rfl dX0_offerWay_2 ?_
  refine lv_iload_n E.1 E.2.1 dX0_offerWay_5 rfl (lv_at hl 1 rfl) ?_
  have hbb : fS bb p0 a.2 p0 = a.2 := fS_s
  refine n_iald E hK hP 8 7 rfl rfl (by decide) (by omega) dX0_offerWay_6 ?_
  rw [hbb]
  refine n_icmp_ge (tgt := 24) E dX0_offerWay_7 rfl (by omega) (by omega) (fun h7 => ?_) (fun h7 => ?_)
  · skip
    exact e_wv E hr hlk hS () trivial (by rw [stp, if_neg (by omega)]; exact hP) dX0_offerWay_24
  · skip
    refine lv_aload_n E.1 E.2.1 dX0_offerWay_10 rfl (lv_at hl 0 rfl) ?_
    refine n_get E inX hK hP 0 rfl rfl 8 (by decide) flX_36 rfl rfl dX0_offerWay_11 ?_
    refine lv_iload_n E.1 E.2.1 dX0_offerWay_14 rfl (lv_at hl 1 rfl) ?_
    refine lv_iload_n E.1 E.2.1 dX0_offerWay_15 rfl (lv_at hl 2 rfl) ?_
    refine n_iast E hK hP (dW hN rfl) hS 7 6 rfl rfl (by decide) (by omega) dX0_offerWay_16 (fun H locs hP hS => ?_)
    have hP : va_P D c2 (wX ad ca T n kc ko kv k lo hi (fS (fS bw p0 a.1) p0 w) (fS bb p0 a.2) pk) H := hP
    refine lv_aload_n E.1 E.2.1 dX0_offerWay_17 rfl (lv_at hl 0 rfl) ?_
    refine n_get E inX hK hP 0 rfl rfl 9 (by decide) flX_39 rfl rfl dX0_offerWay_18 ?_
    refine lv_iload_n E.1 E.2.1 dX0_offerWay_21 rfl (lv_at hl 1 rfl) ?_
    refine lv_iload_n E.1 E.2.1 dX0_offerWay_22 rfl (lv_at hl 3 rfl) ?_
    refine n_iast E hK hP (dW hN rfl) hS 8 7 rfl rfl (by decide) (by omega) dX0_offerWay_23 (fun H locs hP hS => ?_)
    have hP : va_P D c2 (wX ad ca T n kc ko kv k lo hi (fS (fS bw p0 a.1) p0 w) (fS (fS bb p0 a.2) p0 z) pk) H := hP
    exact e_wv E hr hlk hS () trivial (by rw [stp, if_pos h7]; rw [fS_fS, fS_fS] at hP; exact hP) dX0_offerWay_24
set_option maxHeartbeats 4000000 in
set_option maxRecDepth 100000 in
theorem cX_packColumn (l : Launch) (D : va_G) (ad : Nat → Nat) (ca : Nat → ClassId) (T : Nat → Nat → Int64) (n : Nat) (kc ko : Nat → Nat) (kv : Nat → Int64) (k : Nat) (lo hi : Nat → Int64) (bw bb pk : Nat → Nat) (b c : Nat) (hN : inj ad 10) (hb0 : b < 8) (hc0 : c < 4) : Met l yX0_packColumn (wA yX0_packColumn cX0_packColumn 8 none) (rN 2) (va_Pc [.ref (ad 0), .int (nI b), .int (nI c)] (pW D c2 (tX ca) (wX ad ca T n kc ko kv k lo hi bw bb pk))) (qV (fun (_ : Unit) => True) D c2 (fun _ => wX ad ca T n kc ko kv k (fS lo (b * 4 + c) (mn (xb T b c) 15)) (fS hi (b * 4 + c) (mx (xb T b c) 15)) (fS bw (b * 4 + c) (pck (xb T b c) (cb c)).1) (fS bb (b * 4 + c) (pck (xb T b c) (cb c)).2) pk) (fA ad 10)) 0 0 (fA ad 10) := by
  refine met_of RX0 rfl (by decide) (Nat.le_of_ble_eq_true rfl) (fun p e s m below meth cd ls E hr hlk _ hB hl => ?_)
  obtain ⟨hP, hK⟩ := hB
  have hl : lv_has ls 8 [(0, .ref (ad 0)), (1, .int (nI b)), (2, .int (nI c))] := hl
  have hS : va_S (fA ad 10) s.heap s.heap [] := va_S.rf
  refine lv_iload_n E.1 E.2.1 dX0_packColumn_0 rfl (lv_at hl 1 rfl) ?_
  refine lv_bipush (v := nI 16) E.1 E.2.1 dX0_packColumn_1 rfl ?_
  refine n_imul E dX0_packColumn_3 ?_
  refine lv_iload_n E.1 E.2.1 dX0_packColumn_4 rfl (lv_at hl 2 rfl) ?_
  have e16 : b * 16 = 16 * b := Nat.mul_comm _ _
  rw [e16]
  refine cS_i E (As := [.int (nI (16 * b)), .int (nI c)]) (rest := []) (cX_spot l (16 * b) c) kX_52 rfl rfl ⟨Nat.le_of_ble_eq_true rfl, Nat.le_of_ble_eq_true rfl⟩ rfl hl.1 rfl (Nat.le_of_ble_eq_true rfl) dX0_packColumn_5 ⟨Nat.zero_le _, Nat.zero_le _⟩ ?_
  refine lv_istore_n (lv' := [(3, .int (nI (c * 128 + (16 * b)))), (0, .ref (ad 0)), (1, .int (nI b)), (2, .int (nI c))]) E.1 E.2.1 dX0_packColumn_8 rfl hl (by decide) rfl (fun ls hl => ?_)
  refine lv_iload_n E.1 E.2.1 dX0_packColumn_9 rfl (lv_at hl 2 rfl) ?_
  refine lv_iload_n E.1 E.2.1 dX0_packColumn_10 rfl (lv_at hl 3 rfl) ?_
  refine cS_i E (As := [.int (nI b), .int (nI c)]) (rest := []) (cX_place l b c) kX_123 rfl rfl ⟨Nat.le_of_ble_eq_true rfl, Nat.le_of_ble_eq_true rfl⟩ rfl hl.1 rfl (Nat.le_of_ble_eq_true rfl) dX0_packColumn_11 ⟨Nat.zero_le _, Nat.zero_le _⟩ ?_
  refine lv_istore (lv' := [(4, .int (nI (b * 4 + c))), (3, .int (nI (c * 128 + (16 * b)))), (0, .ref (ad 0)), (1, .int (nI b)), (2, .int (nI c))]) E.1 E.2.1 dX0_packColumn_14 hl (by decide) rfl (fun ls hl => ?_)
  refine lv_iload_n E.1 E.2.1 dX0_packColumn_16 rfl (lv_at hl 4 rfl) ?_
  refine lv_iconst (v := nI 3) E.1 E.2.1 dX0_packColumn_17 rfl ?_
  refine n_icmp_ne (tgt := 26) E dX0_packColumn_18 rfl (by omega) (by omega) (fun h18 => ?_) (fun h18 => ?_)
  · skip
    refine lv_bipush (v := nI 32) E.1 E.2.1 dX0_packColumn_26 rfl ?_
    refine tpi (y := nI (cb c)) (by rw [cb, if_neg h18]) ?_
    refine lv_istore (lv' := [(5, .int (nI (cb c))), (4, .int (nI (b * 4 + c))), (3, .int (nI (c * 128 + (16 * b)))), (0, .ref (ad 0)), (1, .int (nI b)), (2, .int (nI c))]) E.1 E.2.1 dX0_packColumn_28 hl (by decide) rfl (fun ls hl => ?_)
    have hcb := cb_le c
    refine lv_aload_n E.1 E.2.1 dX0_packColumn_30 rfl (lv_at hl 3 rfl) ?_
    refine lv_iload_n E.1 E.2.1 dX0_packColumn_31 rfl (lv_at hl 2 rfl) ?_
    refine lv_iload E.1 E.2.1 dX0_packColumn_32 (lv_at hl 1 rfl) ?_
    refine cV_wv E (As := [.int (nI (c * 128 + (16 * b))), .int (nI (b * 4 + c))]) (rest := []) (cX_noteBounds l D ad ca T n kc ko kv k lo hi bw bb pk b c hN (by omega) (by omega)) kX_162 hK hP hS (fun _ h => h) 0 rfl rfl rfl rfl ⟨Nat.le_of_ble_eq_true rfl, Nat.le_of_ble_eq_true rfl⟩ rfl hl.1 rfl (Nat.le_of_ble_eq_true rfl) dX0_packColumn_34 ⟨Nat.zero_le _, Nat.zero_le _⟩ (fun u34 H locs hp34 hP _ _ hS => ?_)
    have hP : va_P D c2 (wX ad ca T n kc ko kv k (fS lo (b * 4 + c) (mn (xb T b c) 15)) (fS hi (b * 4 + c) (mx (xb T b c) 15)) bw bb pk) H := hP
    refine lv_aload_n E.1 E.2.1 dX0_packColumn_37 rfl (lv_at hl 3 rfl) ?_
    refine lv_iload_n E.1 E.2.1 dX0_packColumn_38 rfl (lv_at hl 2 rfl) ?_
    refine cV_i E (As := [.int (nI (c * 128 + (16 * b)))]) (rest := []) (cX_differentCells l D ad ca T n kc ko kv k (fS lo (b * 4 + c) (mn (xb T b c) 15)) (fS hi (b * 4 + c) (mx (xb T b c) 15)) bw bb pk b c (by omega) (by omega)) kX_165 hK hP 0 rfl rfl rfl rfl ⟨Nat.le_of_ble_eq_true rfl, Nat.le_of_ble_eq_true rfl⟩ rfl hl.1 rfl (Nat.le_of_ble_eq_true rfl) dX0_packColumn_39 ⟨Nat.zero_le _, Nat.zero_le _⟩ ?_
    refine lv_istore (lv' := [(6, .int (nI (wds (xb T b c)))), (5, .int (nI (cb c))), (4, .int (nI (b * 4 + c))), (3, .int (nI (c * 128 + (16 * b)))), (0, .ref (ad 0)), (1, .int (nI b)), (2, .int (nI c))]) E.1 E.2.1 dX0_packColumn_42 hl (by decide) rfl (fun ls hl => ?_)
    refine lv_aload_n E.1 E.2.1 dX0_packColumn_44 rfl (lv_at hl 4 rfl) ?_
    refine n_get E inX hK hP 0 rfl rfl 7 (by decide) flX_33 rfl rfl dX0_packColumn_45 ?_
    refine lv_iload E.1 E.2.1 dX0_packColumn_48 (lv_at hl 2 rfl) ?_
    refine n_lald E hK hP 6 5 rfl rfl (by decide) (by omega) dX0_packColumn_50 ?_
    refine lv_aload_n E.1 E.2.1 dX0_packColumn_51 rfl (lv_at hl 4 rfl) ?_
    refine n_get E inX hK hP 0 rfl rfl 6 (by decide) flX_30 rfl rfl dX0_packColumn_52 ?_
    refine lv_iload E.1 E.2.1 dX0_packColumn_55 (lv_at hl 2 rfl) ?_
    refine n_lald E hK hP 5 4 rfl rfl (by decide) (by omega) dX0_packColumn_57 ?_
    refine lv_lsub E.1 E.2.1 dX0_packColumn_58 ?_
    refine tpl (y := mx (xb T b c) 15 - mn (xb T b c) 15) (by rw [fS_s, fS_s]) ?_
    refine cS_i E (As := [.long (mx (xb T b c) 15 - mn (xb T b c) 15)]) (rest := []) (cX_widthOf l (mx (xb T b c) 15 - mn (xb T b c) 15)) kX_169 rfl rfl ⟨Nat.le_of_ble_eq_true rfl, Nat.le_of_ble_eq_true rfl⟩ rfl hl.1 rfl (Nat.le_of_ble_eq_true rfl) dX0_packColumn_59 ⟨Nat.zero_le _, Nat.zero_le _⟩ ?_
    refine lv_istore (lv' := [(7, .int (nI (wd (mx (xb T b c) 15 - mn (xb T b c) 15)))), (6, .int (nI (wds (xb T b c)))), (5, .int (nI (cb c))), (4, .int (nI (b * 4 + c))), (3, .int (nI (c * 128 + (16 * b)))), (0, .ref (ad 0)), (1, .int (nI b)), (2, .int (nI c))]) E.1 E.2.1 dX0_packColumn_62 hl (by decide) rfl (fun ls hl => ?_)
    refine lv_aload_n E.1 E.2.1 dX0_packColumn_64 rfl (lv_at hl 5 rfl) ?_
    refine n_get E inX hK hP 0 rfl rfl 8 (by decide) flX_36 rfl rfl dX0_packColumn_65 ?_
    refine lv_iload E.1 E.2.1 dX0_packColumn_68 (lv_at hl 3 rfl) ?_
    refine lv_iconst (v := nI 0) E.1 E.2.1 dX0_packColumn_70 rfl ?_
    refine n_iast E hK hP (dW hN rfl) hS 7 6 rfl rfl (by decide) (by omega) dX0_packColumn_71 (fun H locs hP hS => ?_)
    have hP : va_P D c2 (wX ad ca T n kc ko kv k (fS lo (b * 4 + c) (mn (xb T b c) 15)) (fS hi (b * 4 + c) (mx (xb T b c) 15)) (fS bw (b * 4 + c) 0) bb pk) H := hP
    refine lv_aload_n E.1 E.2.1 dX0_packColumn_72 rfl (lv_at hl 5 rfl) ?_
    refine n_get E inX hK hP 0 rfl rfl 9 (by decide) flX_39 rfl rfl dX0_packColumn_73 ?_
    refine lv_iload E.1 E.2.1 dX0_packColumn_76 (lv_at hl 3 rfl) ?_
    refine lv_bipush (v := nI 16) E.1 E.2.1 dX0_packColumn_78 rfl ?_
    refine lv_iload E.1 E.2.1 dX0_packColumn_80 (lv_at hl 2 rfl) ?_
    refine n_imul E dX0_packColumn_82 ?_
    refine n_iast E hK hP (dW hN rfl) hS 8 7 rfl rfl (by decide) (by omega) dX0_packColumn_83 (fun H locs hP hS => ?_)
    have hP : va_P D c2 (wX ad ca T n kc ko kv k (fS lo (b * 4 + c) (mn (xb T b c) 15)) (fS hi (b * 4 + c) (mx (xb T b c) 15)) (fS bw (b * 4 + c) 0) (fS bb (b * 4 + c) (16 * (cb c))) pk) H := hP
    refine lv_aload_n E.1 E.2.1 dX0_packColumn_84 rfl (lv_at hl 5 rfl) ?_
    refine lv_iload E.1 E.2.1 dX0_packColumn_85 (lv_at hl 3 rfl) ?_
    refine lv_iconst (v := nI 1) E.1 E.2.1 dX0_packColumn_87 rfl ?_
    refine lv_aload_n E.1 E.2.1 dX0_packColumn_88 rfl (lv_at hl 5 rfl) ?_
    refine lv_iload_n E.1 E.2.1 dX0_packColumn_89 rfl (lv_at hl 4 rfl) ?_
    refine cV_i E (As := [.int (nI (c * 128 + (16 * b)))]) (rest := [.int (nI 1), .int (nI (b * 4 + c)), .ref (ad 0)]) (cX_runsOfCells l D ad ca T n kc ko kv k (fS lo (b * 4 + c) (mn (xb T b c) 15)) (fS hi (b * 4 + c) (mx (xb T b c) 15)) (fS bw (b * 4 + c) 0) (fS bb (b * 4 + c) (16 * (cb c))) pk b c (by omega) (by omega)) kX_173 hK hP 0 rfl rfl rfl rfl ⟨Nat.le_of_ble_eq_true rfl, Nat.le_of_ble_eq_true rfl⟩ rfl hl.1 rfl (Nat.le_of_ble_eq_true rfl) dX0_packColumn_90 ⟨Nat.zero_le _, Nat.zero_le _⟩ ?_
    refine lv_iload E.1 E.2.1 dX0_packColumn_93 (lv_at hl 2 rfl) ?_
    refine lv_iconst (v := nI 5) E.1 E.2.1 dX0_packColumn_95 rfl ?_
    refine n_iadd E dX0_packColumn_96 ?_
    refine n_imul E dX0_packColumn_97 ?_
    refine tpi (y := nI (zR (xb T b c) (cb c))) rfl ?_
    have hzR := zR_le (xb T b c) c
    have hzW := zW_le (xb T b c) c
    have hzO := zO_le (xb T b c) c
    have hx1 : ((0, 16 * cb c)).2 ≤ 16 * 64 := by show 16 * cb c ≤ _; omega
    have hx2 := stp_le (w := 1) (z := zR (xb T b c) (cb c)) hx1
    have hx3 := stp_le (w := 2) (z := zW (xb T b c) (cb c)) hx2
    refine cV_wv E (As := [.int (nI (b * 4 + c)), .int (nI 1), .int (nI (zR (xb T b c) (cb c)))]) (rest := []) (cX_offerWay l D ad ca T n kc ko kv k (fS lo (b * 4 + c) (mn (xb T b c) 15)) (fS hi (b * 4 + c) (mx (xb T b c) 15)) bw bb pk (b * 4 + c) (0, 16 * cb c) 1 (zR (xb T b c) (cb c)) hN (by omega) (by omega) (by omega)) kX_176 hK hP hS (fun _ h => h) 0 rfl rfl rfl rfl ⟨Nat.le_of_ble_eq_true rfl, Nat.le_of_ble_eq_true rfl⟩ rfl hl.1 rfl (Nat.le_of_ble_eq_true rfl) dX0_packColumn_98 ⟨Nat.zero_le _, Nat.zero_le _⟩ (fun u98 H locs hp98 hP _ _ hS => ?_)
    have hP : va_P D c2 (wX ad ca T n kc ko kv k (fS lo (b * 4 + c) (mn (xb T b c) 15)) (fS hi (b * 4 + c) (mx (xb T b c) 15)) (fS bw (b * 4 + c) (stp (0, 16 * cb c) 1 (zR (xb T b c) (cb c))).1) (fS bb (b * 4 + c) (stp (0, 16 * cb c) 1 (zR (xb T b c) (cb c))).2) pk) H := hP
    refine lv_aload_n E.1 E.2.1 dX0_packColumn_101 rfl (lv_at hl 5 rfl) ?_
    refine lv_iload E.1 E.2.1 dX0_packColumn_102 (lv_at hl 3 rfl) ?_
    refine lv_iconst (v := nI 2) E.1 E.2.1 dX0_packColumn_104 rfl ?_
    refine lv_iload E.1 E.2.1 dX0_packColumn_105 (lv_at hl 1 rfl) ?_
    refine lv_iload E.1 E.2.1 dX0_packColumn_107 (lv_at hl 2 rfl) ?_
    refine n_imul E dX0_packColumn_109 ?_
    refine lv_bipush (v := nI 16) E.1 E.2.1 dX0_packColumn_110 rfl ?_
    refine lv_iload E.1 E.2.1 dX0_packColumn_112 (lv_at hl 1 rfl) ?_
    refine lv_iconst (v := nI 1) E.1 E.2.1 dX0_packColumn_114 rfl ?_
    have hwp := wds_pos (xb T b c)
    have hwl := wds_le (xb T b c)
    refine n_isub E (by omega) dX0_packColumn_115 ?_
    refine n_i2l E (by omega) dX0_packColumn_116 ?_
    refine cS_i E (As := [.long (lN (wds (xb T b c) - 1))]) (rest := [.int (nI 16), .int (nI ((wds (xb T b c)) * (cb c))), .int (nI 2), .int (nI (b * 4 + c)), .ref (ad 0)]) (cX_widthOf l (lN (wds (xb T b c) - 1))) kX_169 rfl rfl ⟨Nat.le_of_ble_eq_true rfl, Nat.le_of_ble_eq_true rfl⟩ rfl hl.1 rfl (Nat.le_of_ble_eq_true rfl) dX0_packColumn_117 ⟨Nat.zero_le _, Nat.zero_le _⟩ ?_
    refine n_imul E dX0_packColumn_120 ?_
    refine n_iadd E dX0_packColumn_121 ?_
    refine tpi (y := nI (zW (xb T b c) (cb c))) rfl ?_
    refine cV_wv E (As := [.int (nI (b * 4 + c)), .int (nI 2), .int (nI (zW (xb T b c) (cb c)))]) (rest := []) (cX_offerWay l D ad ca T n kc ko kv k (fS lo (b * 4 + c) (mn (xb T b c) 15)) (fS hi (b * 4 + c) (mx (xb T b c) 15)) bw bb pk (b * 4 + c) (stp (0, 16 * cb c) 1 (zR (xb T b c) (cb c))) 2 (zW (xb T b c) (cb c)) hN (by omega) (by omega) (by omega)) kX_176 hK hP hS (fun _ h => h) 0 rfl rfl rfl rfl ⟨Nat.le_of_ble_eq_true rfl, Nat.le_of_ble_eq_true rfl⟩ rfl hl.1 rfl (Nat.le_of_ble_eq_true rfl) dX0_packColumn_122 ⟨Nat.zero_le _, Nat.zero_le _⟩ (fun u122 H locs hp122 hP _ _ hS => ?_)
    have hP : va_P D c2 (wX ad ca T n kc ko kv k (fS lo (b * 4 + c) (mn (xb T b c) 15)) (fS hi (b * 4 + c) (mx (xb T b c) 15)) (fS bw (b * 4 + c) (stp (stp (0, 16 * cb c) 1 (zR (xb T b c) (cb c))) 2 (zW (xb T b c) (cb c))).1) (fS bb (b * 4 + c) (stp (stp (0, 16 * cb c) 1 (zR (xb T b c) (cb c))) 2 (zW (xb T b c) (cb c))).2) pk) H := hP
    refine lv_aload_n E.1 E.2.1 dX0_packColumn_125 rfl (lv_at hl 5 rfl) ?_
    refine lv_iload E.1 E.2.1 dX0_packColumn_126 (lv_at hl 3 rfl) ?_
    refine lv_iconst (v := nI 3) E.1 E.2.1 dX0_packColumn_128 rfl ?_
    refine lv_iload E.1 E.2.1 dX0_packColumn_129 (lv_at hl 2 rfl) ?_
    refine lv_bipush (v := nI 7) E.1 E.2.1 dX0_packColumn_131 rfl ?_
    refine n_iadd E dX0_packColumn_133 ?_
    refine lv_bipush (v := nI 16) E.1 E.2.1 dX0_packColumn_134 rfl ?_
    refine lv_iload E.1 E.2.1 dX0_packColumn_136 (lv_at hl 0 rfl) ?_
    refine n_imul E dX0_packColumn_138 ?_
    refine n_iadd E dX0_packColumn_139 ?_
    refine tpi (y := nI (zO (xb T b c) (cb c))) rfl ?_
    refine cV_wv E (As := [.int (nI (b * 4 + c)), .int (nI 3), .int (nI (zO (xb T b c) (cb c)))]) (rest := []) (cX_offerWay l D ad ca T n kc ko kv k (fS lo (b * 4 + c) (mn (xb T b c) 15)) (fS hi (b * 4 + c) (mx (xb T b c) 15)) bw bb pk (b * 4 + c) (stp (stp (0, 16 * cb c) 1 (zR (xb T b c) (cb c))) 2 (zW (xb T b c) (cb c))) 3 (zO (xb T b c) (cb c)) hN (by omega) (by omega) (by omega)) kX_176 hK hP hS (fun _ h => h) 0 rfl rfl rfl rfl ⟨Nat.le_of_ble_eq_true rfl, Nat.le_of_ble_eq_true rfl⟩ rfl hl.1 rfl (Nat.le_of_ble_eq_true rfl) dX0_packColumn_140 ⟨Nat.zero_le _, Nat.zero_le _⟩ (fun u140 H locs hp140 hP _ _ hS => ?_)
    have hP : va_P D c2 (wX ad ca T n kc ko kv k (fS lo (b * 4 + c) (mn (xb T b c) 15)) (fS hi (b * 4 + c) (mx (xb T b c) 15)) (fS bw (b * 4 + c) (stp (stp (stp (0, 16 * cb c) 1 (zR (xb T b c) (cb c))) 2 (zW (xb T b c) (cb c))) 3 (zO (xb T b c) (cb c))).1) (fS bb (b * 4 + c) (stp (stp (stp (0, 16 * cb c) 1 (zR (xb T b c) (cb c))) 2 (zW (xb T b c) (cb c))) 3 (zO (xb T b c) (cb c))).2) pk) H := hP
    exact e_wv E hr hlk hS () trivial hP dX0_packColumn_143
  · skip
    refine lv_bipush (v := nI 64) E.1 E.2.1 dX0_packColumn_21 rfl ?_
    refine lv_goto (tgt := 28) E.1 E.2.1 dX0_packColumn_23 rfl ?_
    refine tpi (y := nI (cb c)) (by rw [cb, if_pos h18]) ?_
    refine lv_istore (lv' := [(5, .int (nI (cb c))), (4, .int (nI (b * 4 + c))), (3, .int (nI (c * 128 + (16 * b)))), (0, .ref (ad 0)), (1, .int (nI b)), (2, .int (nI c))]) E.1 E.2.1 dX0_packColumn_28 hl (by decide) rfl (fun ls hl => ?_)
    have hcb := cb_le c
    refine lv_aload_n E.1 E.2.1 dX0_packColumn_30 rfl (lv_at hl 3 rfl) ?_
    refine lv_iload_n E.1 E.2.1 dX0_packColumn_31 rfl (lv_at hl 2 rfl) ?_
    refine lv_iload E.1 E.2.1 dX0_packColumn_32 (lv_at hl 1 rfl) ?_
    refine cV_wv E (As := [.int (nI (c * 128 + (16 * b))), .int (nI (b * 4 + c))]) (rest := []) (cX_noteBounds l D ad ca T n kc ko kv k lo hi bw bb pk b c hN (by omega) (by omega)) kX_162 hK hP hS (fun _ h => h) 0 rfl rfl rfl rfl ⟨Nat.le_of_ble_eq_true rfl, Nat.le_of_ble_eq_true rfl⟩ rfl hl.1 rfl (Nat.le_of_ble_eq_true rfl) dX0_packColumn_34 ⟨Nat.zero_le _, Nat.zero_le _⟩ (fun u34 H locs hp34 hP _ _ hS => ?_)
    have hP : va_P D c2 (wX ad ca T n kc ko kv k (fS lo (b * 4 + c) (mn (xb T b c) 15)) (fS hi (b * 4 + c) (mx (xb T b c) 15)) bw bb pk) H := hP
    refine lv_aload_n E.1 E.2.1 dX0_packColumn_37 rfl (lv_at hl 3 rfl) ?_
    refine lv_iload_n E.1 E.2.1 dX0_packColumn_38 rfl (lv_at hl 2 rfl) ?_
    refine cV_i E (As := [.int (nI (c * 128 + (16 * b)))]) (rest := []) (cX_differentCells l D ad ca T n kc ko kv k (fS lo (b * 4 + c) (mn (xb T b c) 15)) (fS hi (b * 4 + c) (mx (xb T b c) 15)) bw bb pk b c (by omega) (by omega)) kX_165 hK hP 0 rfl rfl rfl rfl ⟨Nat.le_of_ble_eq_true rfl, Nat.le_of_ble_eq_true rfl⟩ rfl hl.1 rfl (Nat.le_of_ble_eq_true rfl) dX0_packColumn_39 ⟨Nat.zero_le _, Nat.zero_le _⟩ ?_
    refine lv_istore (lv' := [(6, .int (nI (wds (xb T b c)))), (5, .int (nI (cb c))), (4, .int (nI (b * 4 + c))), (3, .int (nI (c * 128 + (16 * b)))), (0, .ref (ad 0)), (1, .int (nI b)), (2, .int (nI c))]) E.1 E.2.1 dX0_packColumn_42 hl (by decide) rfl (fun ls hl => ?_)
    refine lv_aload_n E.1 E.2.1 dX0_packColumn_44 rfl (lv_at hl 4 rfl) ?_
    refine n_get E inX hK hP 0 rfl rfl 7 (by decide) flX_33 rfl rfl dX0_packColumn_45 ?_
    refine lv_iload E.1 E.2.1 dX0_packColumn_48 (lv_at hl 2 rfl) ?_
    refine n_lald E hK hP 6 5 rfl rfl (by decide) (by omega) dX0_packColumn_50 ?_
    refine lv_aload_n E.1 E.2.1 dX0_packColumn_51 rfl (lv_at hl 4 rfl) ?_
    refine n_get E inX hK hP 0 rfl rfl 6 (by decide) flX_30 rfl rfl dX0_packColumn_52 ?_
    refine lv_iload E.1 E.2.1 dX0_packColumn_55 (lv_at hl 2 rfl) ?_
    refine n_lald E hK hP 5 4 rfl rfl (by decide) (by omega) dX0_packColumn_57 ?_
    refine lv_lsub E.1 E.2.1 dX0_packColumn_58 ?_
    refine tpl (y := mx (xb T b c) 15 - mn (xb T b c) 15) (by rw [fS_s, fS_s]) ?_
    refine cS_i E (As := [.long (mx (xb T b c) 15 - mn (xb T b c) 15)]) (rest := []) (cX_widthOf l (mx (xb T b c) 15 - mn (xb T b c) 15)) kX_169 rfl rfl ⟨Nat.le_of_ble_eq_true rfl, Nat.le_of_ble_eq_true rfl⟩ rfl hl.1 rfl (Nat.le_of_ble_eq_true rfl) dX0_packColumn_59 ⟨Nat.zero_le _, Nat.zero_le _⟩ ?_
    refine lv_istore (lv' := [(7, .int (nI (wd (mx (xb T b c) 15 - mn (xb T b c) 15)))), (6, .int (nI (wds (xb T b c)))), (5, .int (nI (cb c))), (4, .int (nI (b * 4 + c))), (3, .int (nI (c * 128 + (16 * b)))), (0, .ref (ad 0)), (1, .int (nI b)), (2, .int (nI c))]) E.1 E.2.1 dX0_packColumn_62 hl (by decide) rfl (fun ls hl => ?_)
    refine lv_aload_n E.1 E.2.1 dX0_packColumn_64 rfl (lv_at hl 5 rfl) ?_
    refine n_get E inX hK hP 0 rfl rfl 8 (by decide) flX_36 rfl rfl dX0_packColumn_65 ?_
    refine lv_iload E.1 E.2.1 dX0_packColumn_68 (lv_at hl 3 rfl) ?_
    refine lv_iconst (v := nI 0) E.1 E.2.1 dX0_packColumn_70 rfl ?_
    refine n_iast E hK hP (dW hN rfl) hS 7 6 rfl rfl (by decide) (by omega) dX0_packColumn_71 (fun H locs hP hS => ?_)
    have hP : va_P D c2 (wX ad ca T n kc ko kv k (fS lo (b * 4 + c) (mn (xb T b c) 15)) (fS hi (b * 4 + c) (mx (xb T b c) 15)) (fS bw (b * 4 + c) 0) bb pk) H := hP
    refine lv_aload_n E.1 E.2.1 dX0_packColumn_72 rfl (lv_at hl 5 rfl) ?_
    refine n_get E inX hK hP 0 rfl rfl 9 (by decide) flX_39 rfl rfl dX0_packColumn_73 ?_
    refine lv_iload E.1 E.2.1 dX0_packColumn_76 (lv_at hl 3 rfl) ?_
    refine lv_bipush (v := nI 16) E.1 E.2.1 dX0_packColumn_78 rfl ?_
    refine lv_iload E.1 E.2.1 dX0_packColumn_80 (lv_at hl 2 rfl) ?_
    refine n_imul E dX0_packColumn_82 ?_
    refine n_iast E hK hP (dW hN rfl) hS 8 7 rfl rfl (by decide) (by omega) dX0_packColumn_83 (fun H locs hP hS => ?_)
    have hP : va_P D c2 (wX ad ca T n kc ko kv k (fS lo (b * 4 + c) (mn (xb T b c) 15)) (fS hi (b * 4 + c) (mx (xb T b c) 15)) (fS bw (b * 4 + c) 0) (fS bb (b * 4 + c) (16 * (cb c))) pk) H := hP
    refine lv_aload_n E.1 E.2.1 dX0_packColumn_84 rfl (lv_at hl 5 rfl) ?_
    refine lv_iload E.1 E.2.1 dX0_packColumn_85 (lv_at hl 3 rfl) ?_
    refine lv_iconst (v := nI 1) E.1 E.2.1 dX0_packColumn_87 rfl ?_
    refine lv_aload_n E.1 E.2.1 dX0_packColumn_88 rfl (lv_at hl 5 rfl) ?_
    refine lv_iload_n E.1 E.2.1 dX0_packColumn_89 rfl (lv_at hl 4 rfl) ?_
    refine cV_i E (As := [.int (nI (c * 128 + (16 * b)))]) (rest := [.int (nI 1), .int (nI (b * 4 + c)), .ref (ad 0)]) (cX_runsOfCells l D ad ca T n kc ko kv k (fS lo (b * 4 + c) (mn (xb T b c) 15)) (fS hi (b * 4 + c) (mx (xb T b c) 15)) (fS bw (b * 4 + c) 0) (fS bb (b * 4 + c) (16 * (cb c))) pk b c (by omega) (by omega)) kX_173 hK hP 0 rfl rfl rfl rfl ⟨Nat.le_of_ble_eq_true rfl, Nat.le_of_ble_eq_true rfl⟩ rfl hl.1 rfl (Nat.le_of_ble_eq_true rfl) dX0_packColumn_90 ⟨Nat.zero_le _, Nat.zero_le _⟩ ?_
    refine lv_iload E.1 E.2.1 dX0_packColumn_93 (lv_at hl 2 rfl) ?_
    refine lv_iconst (v := nI 5) E.1 E.2.1 dX0_packColumn_95 rfl ?_
    refine n_iadd E dX0_packColumn_96 ?_
    refine n_imul E dX0_packColumn_97 ?_
    refine tpi (y := nI (zR (xb T b c) (cb c))) rfl ?_
    have hzR := zR_le (xb T b c) c
    have hzW := zW_le (xb T b c) c
    have hzO := zO_le (xb T b c) c
    have hx1 : ((0, 16 * cb c)).2 ≤ 16 * 64 := by show 16 * cb c ≤ _; omega
    have hx2 := stp_le (w := 1) (z := zR (xb T b c) (cb c)) hx1
    have hx3 := stp_le (w := 2) (z := zW (xb T b c) (cb c)) hx2
    refine cV_wv E (As := [.int (nI (b * 4 + c)), .int (nI 1), .int (nI (zR (xb T b c) (cb c)))]) (rest := []) (cX_offerWay l D ad ca T n kc ko kv k (fS lo (b * 4 + c) (mn (xb T b c) 15)) (fS hi (b * 4 + c) (mx (xb T b c) 15)) bw bb pk (b * 4 + c) (0, 16 * cb c) 1 (zR (xb T b c) (cb c)) hN (by omega) (by omega) (by omega)) kX_176 hK hP hS (fun _ h => h) 0 rfl rfl rfl rfl ⟨Nat.le_of_ble_eq_true rfl, Nat.le_of_ble_eq_true rfl⟩ rfl hl.1 rfl (Nat.le_of_ble_eq_true rfl) dX0_packColumn_98 ⟨Nat.zero_le _, Nat.zero_le _⟩ (fun u98 H locs hp98 hP _ _ hS => ?_)
    have hP : va_P D c2 (wX ad ca T n kc ko kv k (fS lo (b * 4 + c) (mn (xb T b c) 15)) (fS hi (b * 4 + c) (mx (xb T b c) 15)) (fS bw (b * 4 + c) (stp (0, 16 * cb c) 1 (zR (xb T b c) (cb c))).1) (fS bb (b * 4 + c) (stp (0, 16 * cb c) 1 (zR (xb T b c) (cb c))).2) pk) H := hP
    refine lv_aload_n E.1 E.2.1 dX0_packColumn_101 rfl (lv_at hl 5 rfl) ?_
    refine lv_iload E.1 E.2.1 dX0_packColumn_102 (lv_at hl 3 rfl) ?_
    refine lv_iconst (v := nI 2) E.1 E.2.1 dX0_packColumn_104 rfl ?_
    refine lv_iload E.1 E.2.1 dX0_packColumn_105 (lv_at hl 1 rfl) ?_
    refine lv_iload E.1 E.2.1 dX0_packColumn_107 (lv_at hl 2 rfl) ?_
    refine n_imul E dX0_packColumn_109 ?_
    refine lv_bipush (v := nI 16) E.1 E.2.1 dX0_packColumn_110 rfl ?_
    refine lv_iload E.1 E.2.1 dX0_packColumn_112 (lv_at hl 1 rfl) ?_
    refine lv_iconst (v := nI 1) E.1 E.2.1 dX0_packColumn_114 rfl ?_
    have hwp := wds_pos (xb T b c)
    have hwl := wds_le (xb T b c)
    refine n_isub E (by omega) dX0_packColumn_115 ?_
    refine n_i2l E (by omega) dX0_packColumn_116 ?_
    refine cS_i E (As := [.long (lN (wds (xb T b c) - 1))]) (rest := [.int (nI 16), .int (nI ((wds (xb T b c)) * (cb c))), .int (nI 2), .int (nI (b * 4 + c)), .ref (ad 0)]) (cX_widthOf l (lN (wds (xb T b c) - 1))) kX_169 rfl rfl ⟨Nat.le_of_ble_eq_true rfl, Nat.le_of_ble_eq_true rfl⟩ rfl hl.1 rfl (Nat.le_of_ble_eq_true rfl) dX0_packColumn_117 ⟨Nat.zero_le _, Nat.zero_le _⟩ ?_
    refine n_imul E dX0_packColumn_120 ?_
    refine n_iadd E dX0_packColumn_121 ?_
    refine tpi (y := nI (zW (xb T b c) (cb c))) rfl ?_
    refine cV_wv E (As := [.int (nI (b * 4 + c)), .int (nI 2), .int (nI (zW (xb T b c) (cb c)))]) (rest := []) (cX_offerWay l D ad ca T n kc ko kv k (fS lo (b * 4 + c) (mn (xb T b c) 15)) (fS hi (b * 4 + c) (mx (xb T b c) 15)) bw bb pk (b * 4 + c) (stp (0, 16 * cb c) 1 (zR (xb T b c) (cb c))) 2 (zW (xb T b c) (cb c)) hN (by omega) (by omega) (by omega)) kX_176 hK hP hS (fun _ h => h) 0 rfl rfl rfl rfl ⟨Nat.le_of_ble_eq_true rfl, Nat.le_of_ble_eq_true rfl⟩ rfl hl.1 rfl (Nat.le_of_ble_eq_true rfl) dX0_packColumn_122 ⟨Nat.zero_le _, Nat.zero_le _⟩ (fun u122 H locs hp122 hP _ _ hS => ?_)
    have hP : va_P D c2 (wX ad ca T n kc ko kv k (fS lo (b * 4 + c) (mn (xb T b c) 15)) (fS hi (b * 4 + c) (mx (xb T b c) 15)) (fS bw (b * 4 + c) (stp (stp (0, 16 * cb c) 1 (zR (xb T b c) (cb c))) 2 (zW (xb T b c) (cb c))).1) (fS bb (b * 4 + c) (stp (stp (0, 16 * cb c) 1 (zR (xb T b c) (cb c))) 2 (zW (xb T b c) (cb c))).2) pk) H := hP
    refine lv_aload_n E.1 E.2.1 dX0_packColumn_125 rfl (lv_at hl 5 rfl) ?_
    refine lv_iload E.1 E.2.1 dX0_packColumn_126 (lv_at hl 3 rfl) ?_
    refine lv_iconst (v := nI 3) E.1 E.2.1 dX0_packColumn_128 rfl ?_
    refine lv_iload E.1 E.2.1 dX0_packColumn_129 (lv_at hl 2 rfl) ?_
    refine lv_bipush (v := nI 7) E.1 E.2.1 dX0_packColumn_131 rfl ?_
    refine n_iadd E dX0_packColumn_133 ?_
    refine lv_bipush (v := nI 16) E.1 E.2.1 dX0_packColumn_134 rfl ?_
    refine lv_iload E.1 E.2.1 dX0_packColumn_136 (lv_at hl 0 rfl) ?_
    refine n_imul E dX0_packColumn_138 ?_
    refine n_iadd E dX0_packColumn_139 ?_
    refine tpi (y := nI (zO (xb T b c) (cb c))) rfl ?_
    refine cV_wv E (As := [.int (nI (b * 4 + c)), .int (nI 3), .int (nI (zO (xb T b c) (cb c)))]) (rest := []) (cX_offerWay l D ad ca T n kc ko kv k (fS lo (b * 4 + c) (mn (xb T b c) 15)) (fS hi (b * 4 + c) (mx (xb T b c) 15)) bw bb pk (b * 4 + c) (stp (stp (0, 16 * cb c) 1 (zR (xb T b c) (cb c))) 2 (zW (xb T b c) (cb c))) 3 (zO (xb T b c) (cb c)) hN (by omega) (by omega) (by omega)) kX_176 hK hP hS (fun _ h => h) 0 rfl rfl rfl rfl ⟨Nat.le_of_ble_eq_true rfl, Nat.le_of_ble_eq_true rfl⟩ rfl hl.1 rfl (Nat.le_of_ble_eq_true rfl) dX0_packColumn_140 ⟨Nat.zero_le _, Nat.zero_le _⟩ (fun u140 H locs hp140 hP _ _ hS => ?_)
    have hP : va_P D c2 (wX ad ca T n kc ko kv k (fS lo (b * 4 + c) (mn (xb T b c) 15)) (fS hi (b * 4 + c) (mx (xb T b c) 15)) (fS bw (b * 4 + c) (stp (stp (stp (0, 16 * cb c) 1 (zR (xb T b c) (cb c))) 2 (zW (xb T b c) (cb c))) 3 (zO (xb T b c) (cb c))).1) (fS bb (b * 4 + c) (stp (stp (stp (0, 16 * cb c) 1 (zR (xb T b c) (cb c))) 2 (zW (xb T b c) (cb c))) 3 (zO (xb T b c) (cb c))).2) pk) H := hP
    exact e_wv E hr hlk hS () trivial hP dX0_packColumn_143
set_option maxHeartbeats 4000000 in
set_option maxRecDepth 100000 in
theorem cX_packBlock (l : Launch) (D : va_G) (ad : Nat → Nat) (ca : Nat → ClassId) (T : Nat → Nat → Int64) (n : Nat) (kc ko : Nat → Nat) (kv : Nat → Int64) (k : Nat) (lo hi : Nat → Int64) (bw bb pk : Nat → Nat) (b : Nat) (hN : inj ad 10) (hb0 : b < 8) : Met l yX0_packBlock (wA yX0_packBlock cX0_packBlock 3 none) (rN 3) (va_Pc [.ref (ad 0), .int (nI b)] (pW D c2 (tX ca) (wX ad ca T n kc ko kv k lo hi bw bb pk))) (qV (fun (u : (Nat → Int64) × (Nat → Int64) × (Nat → Nat) × (Nat → Nat)) => (∀ c, c < 4 → Pk T b c u.1 u.2.1 u.2.2.1 u.2.2.2) ∧ ∀ i, (i < b * 4 ∨ b * 4 + 4 ≤ i) → u.1 i = lo i ∧ u.2.1 i = hi i ∧ u.2.2.1 i = bw i ∧ u.2.2.2 i = bb i) D c2 (fun u => wX ad ca T n kc ko kv k u.1 u.2.1 u.2.2.1 u.2.2.2 pk) (fA ad 10)) 0 0 (fA ad 10) := by
  refine met_of RX0 rfl (by decide) (Nat.le_of_ble_eq_true rfl) (fun p e s m below meth cd ls E hr hlk _ hB hl => ?_)
  obtain ⟨hP, hK⟩ := hB
  have hl : lv_has ls 3 [(0, .ref (ad 0)), (1, .int (nI b))] := hl
  have hS : va_S (fA ad 10) s.heap s.heap [] := va_S.rf
  refine lv_iconst (v := nI 0) E.1 E.2.1 dX0_packBlock_0 rfl ?_
  refine lv_istore_n (lv' := [(2, .int (nI 0)), (0, .ref (ad 0)), (1, .int (nI b))]) E.1 E.2.1 dX0_packBlock_1 rfl hl (by decide) rfl (fun ls hl => ?_)
  refine w_lq2 (fun (c : Nat) (u : (Nat → Int64) × (Nat → Int64) × (Nat → Nat) × (Nat → Nat)) => c ≤ 4 ∧ (∀ d, d < c → Pk T b d u.1 u.2.1 u.2.2.1 u.2.2.2) ∧ ∀ i, (i < b * 4 ∨ b * 4 + 4 ≤ i) → u.1 i = lo i ∧ u.2.1 i = hi i ∧ u.2.2.1 i = bw i ∧ u.2.2.2 i = bb i) (fun (c : Nat) (u : (Nat → Int64) × (Nat → Int64) × (Nat → Nat) × (Nat → Nat)) => 4 - c) (fun (c : Nat) (u : (Nat → Int64) × (Nat → Int64) × (Nat → Nat) × (Nat → Nat)) => [(2, .int (nI c)), (0, .ref (ad 0)), (1, .int (nI b))]) (fun (c : Nat) (u : (Nat → Int64) × (Nat → Int64) × (Nat → Nat) × (Nat → Nat)) H locs => va_P D c2 (wX ad ca T n kc ko kv k u.1 u.2.1 u.2.2.1 u.2.2.2 pk) H ∧ va_S (fA ad 10) s.heap H locs) 0 (lo, hi, bw, bb) (⟨by omega, fun d h => by omega, fun i _ => ⟨rfl, rfl, rfl, rfl⟩⟩) ⟨hP, hS⟩ (lv_sub hl [0, 1, 2] rfl) (fun c u ls H locs hI hB hl ih2 => ?_)
  obtain ⟨hP, hS⟩ := hB
  have hl : lv_has ls 3 [(2, .int (nI c)), (0, .ref (ad 0)), (1, .int (nI b))] := hl
  have hP : va_P D c2 (wX ad ca T n kc ko kv k u.1 u.2.1 u.2.2.1 u.2.2.2 pk) H := hP
  obtain ⟨hc0, hPk, hU⟩ := hI
  refine lv_iload_n E.1 E.2.1 dX0_packBlock_2 rfl (lv_at hl 0 rfl) ?_
  refine lv_iconst (v := nI 4) E.1 E.2.1 dX0_packBlock_3 rfl ?_
  refine n_icmp_ge (tgt := 19) E dX0_packBlock_4 rfl (by omega) (by omega) (fun h4 => ?_) (fun h4 => ?_)
  · skip
    exact e_wv E hr hlk hS u (⟨fun d hd => hPk d (by omega), hU⟩) hP dX0_packBlock_19
  · skip
    refine lv_aload_n E.1 E.2.1 dX0_packBlock_7 rfl (lv_at hl 1 rfl) ?_
    refine lv_iload_n E.1 E.2.1 dX0_packBlock_8 rfl (lv_at hl 2 rfl) ?_
    refine lv_iload_n E.1 E.2.1 dX0_packBlock_9 rfl (lv_at hl 0 rfl) ?_
    refine cV_wv E (As := [.int (nI b), .int (nI c)]) (rest := []) (cX_packColumn l D ad ca T n kc ko kv k u.1 u.2.1 u.2.2.1 u.2.2.2 pk b c hN (by omega) (by omega)) kX_159 hK hP hS (fun _ h => h) 0 rfl rfl rfl rfl ⟨Nat.le_of_ble_eq_true rfl, Nat.le_of_ble_eq_true rfl⟩ rfl hl.1 rfl (Nat.le_of_ble_eq_true rfl) dX0_packBlock_10 ⟨Nat.zero_le _, Nat.zero_le _⟩ (fun u10 H locs hp10 hP _ _ hS => ?_)
    have hP : va_P D c2 (wX ad ca T n kc ko kv k (fS u.1 (b * 4 + c) (mn (xb T b c) 15)) (fS u.2.1 (b * 4 + c) (mx (xb T b c) 15)) (fS u.2.2.1 (b * 4 + c) (pck (xb T b c) (cb c)).1) (fS u.2.2.2 (b * 4 + c) (pck (xb T b c) (cb c)).2) pk) H := hP
    refine lv_iinc (k := 0) (v := nI (c + 1)) (lv' := [(2, .int (nI (c + 1))), (0, .ref (ad 0)), (1, .int (nI b))]) E.1 E.2.1 dX0_packBlock_13 hl rfl (inc1 _) (by decide) rfl (fun ls hl => ?_)
    refine lv_goto (tgt := 2) E.1 E.2.1 dX0_packBlock_16 rfl ?_
    exact ih2 (c + 1) (fS u.1 (b * 4 + c) (mn (xb T b c) 15), fS u.2.1 (b * 4 + c) (mx (xb T b c) 15), fS u.2.2.1 (b * 4 + c) (pck (xb T b c) (cb c)).1, fS u.2.2.2 (b * 4 + c) (pck (xb T b c) (cb c)).2) _ _ _ (⟨by omega, qk_s hPk, fun i hi => qu_s (hU i hi) (by omega)⟩) (by omega) ⟨hP, hS⟩ (lv_sub hl [0, 1, 2] rfl)
set_option maxHeartbeats 4000000 in
set_option maxRecDepth 100000 in
theorem cX_packFullBlocks (l : Launch) (D : va_G) (ad : Nat → Nat) (ca : Nat → ClassId) (T : Nat → Nat → Int64) (n : Nat) (kc ko : Nat → Nat) (kv : Nat → Int64) (k : Nat) (lo hi : Nat → Int64) (bw bb pk : Nat → Nat)  (hN : inj ad 10) (hn128 : n ≤ 128) : Met l yX0_packFullBlocks (wA yX0_packFullBlocks cX0_packFullBlocks 2 none) (rN 4) (va_Pc [.ref (ad 0)] (pW D c2 (tX ca) (wX ad ca T n kc ko kv k lo hi bw bb pk))) (qV (fun (u : (Nat → Int64) × (Nat → Int64) × (Nat → Nat) × (Nat → Nat)) => (∀ b c, b < n / 16 → c < 4 → Pk T b c u.1 u.2.1 u.2.2.1 u.2.2.2)) D c2 (fun u => wX ad ca T n kc ko kv k u.1 u.2.1 u.2.2.1 u.2.2.2 pk) (fA ad 10)) 0 0 (fA ad 10) := by
  refine met_of RX0 rfl (by decide) (Nat.le_of_ble_eq_true rfl) (fun p e s m below meth cd ls E hr hlk _ hB hl => ?_)
  obtain ⟨hP, hK⟩ := hB
  have hl : lv_has ls 2 [(0, .ref (ad 0))] := hl
  have hS : va_S (fA ad 10) s.heap s.heap [] := va_S.rf
  refine lv_iconst (v := nI 0) E.1 E.2.1 dX0_packFullBlocks_0 rfl ?_
  refine lv_istore_n (lv' := [(1, .int (nI 0)), (0, .ref (ad 0))]) E.1 E.2.1 dX0_packFullBlocks_1 rfl hl (by decide) rfl (fun ls hl => ?_)
  refine w_lq2 (fun (b : Nat) (u : (Nat → Int64) × (Nat → Int64) × (Nat → Nat) × (Nat → Nat)) => b ≤ n / 16 ∧ (∀ a c, a < b → c < 4 → Pk T a c u.1 u.2.1 u.2.2.1 u.2.2.2)) (fun (b : Nat) (u : (Nat → Int64) × (Nat → Int64) × (Nat → Nat) × (Nat → Nat)) => n / 16 - b) (fun (b : Nat) (u : (Nat → Int64) × (Nat → Int64) × (Nat → Nat) × (Nat → Nat)) => [(1, .int (nI b)), (0, .ref (ad 0))]) (fun (b : Nat) (u : (Nat → Int64) × (Nat → Int64) × (Nat → Nat) × (Nat → Nat)) H locs => va_P D c2 (wX ad ca T n kc ko kv k u.1 u.2.1 u.2.2.1 u.2.2.2 pk) H ∧ va_S (fA ad 10) s.heap H locs) 0 (lo, hi, bw, bb) (⟨Nat.zero_le _, fun a c h => by omega⟩) ⟨hP, hS⟩ (lv_sub hl [0, 1] rfl) (fun b u ls H locs hI hB hl ih2 => ?_)
  obtain ⟨hP, hS⟩ := hB
  have hl : lv_has ls 2 [(1, .int (nI b)), (0, .ref (ad 0))] := hl
  have hP : va_P D c2 (wX ad ca T n kc ko kv k u.1 u.2.1 u.2.2.1 u.2.2.2 pk) H := hP
  obtain ⟨hb1, hPk⟩ := hI
  refine lv_iload_n E.1 E.2.1 dX0_packFullBlocks_2 rfl (lv_at hl 0 rfl) ?_
  refine lv_aload_n E.1 E.2.1 dX0_packFullBlocks_3 rfl (lv_at hl 1 rfl) ?_
  refine cV_i E (As := []) (rest := [.int (nI b)]) (cX_fullBlocks l D ad ca T n kc ko kv k u.1 u.2.1 u.2.2.1 u.2.2.2 pk (by omega)) kX_135 hK hP 0 rfl rfl rfl rfl ⟨Nat.le_of_ble_eq_true rfl, Nat.le_of_ble_eq_true rfl⟩ rfl hl.1 rfl (Nat.le_of_ble_eq_true rfl) dX0_packFullBlocks_4 ⟨Nat.zero_le _, Nat.zero_le _⟩ ?_
  refine n_icmp_ge (tgt := 21) E dX0_packFullBlocks_7 rfl (by omega) (by omega) (fun h7 => ?_) (fun h7 => ?_)
  · skip
    exact e_wv E hr hlk hS u (fun a c ha hc => hPk a c (by omega) hc) hP dX0_packFullBlocks_21
  · skip
    refine lv_aload_n E.1 E.2.1 dX0_packFullBlocks_10 rfl (lv_at hl 1 rfl) ?_
    refine lv_iload_n E.1 E.2.1 dX0_packFullBlocks_11 rfl (lv_at hl 0 rfl) ?_
    refine cV_wv E (As := [.int (nI b)]) (rest := []) (cX_packBlock l D ad ca T n kc ko kv k u.1 u.2.1 u.2.2.1 u.2.2.2 pk b hN (by omega)) kX_56 hK hP hS (fun _ h => h) 0 rfl rfl rfl rfl ⟨Nat.le_of_ble_eq_true rfl, Nat.le_of_ble_eq_true rfl⟩ rfl hl.1 rfl (Nat.le_of_ble_eq_true rfl) dX0_packFullBlocks_12 ⟨Nat.zero_le _, Nat.zero_le _⟩ (fun u12 H locs hp12 hP _ _ hS => ?_)
    have hP : va_P D c2 (wX ad ca T n kc ko kv k u12.1 u12.2.1 u12.2.2.1 u12.2.2.2 pk) H := hP
    refine lv_iinc (k := 0) (v := nI (b + 1)) (lv' := [(1, .int (nI (b + 1))), (0, .ref (ad 0))]) E.1 E.2.1 dX0_packFullBlocks_15 hl rfl (inc1 _) (by decide) rfl (fun ls hl => ?_)
    refine lv_goto (tgt := 2) E.1 E.2.1 dX0_packFullBlocks_18 rfl ?_
    exact ih2 (b + 1) u12 _ _ _ (⟨by omega, qk_b hPk hp12.1 hp12.2⟩) (by omega) ⟨hP, hS⟩ (lv_sub hl [0, 1] rfl)
set_option maxHeartbeats 4000000 in
set_option maxRecDepth 100000 in
theorem cX_moveRow (l : Launch) (D : va_G) (ad : Nat → Nat) (ca : Nat → ClassId) (T : Nat → Nat → Int64) (n : Nat) (kc ko : Nat → Nat) (kv : Nat → Int64) (k : Nat) (lo hi : Nat → Int64) (bw bb pk : Nat → Nat) (a b : Nat) (hN : inj ad 10) (ha0 : a < 128) (hb0 : b < 128) : Met l yX0_moveRow (wA yX0_moveRow cX0_moveRow 4 none) (rN 1) (va_Pc [.ref (ad 0), .int (nI a), .int (nI b)] (pW D c2 (tX ca) (wX ad ca T n kc ko kv k lo hi bw bb pk))) (qV (fun (_ : Unit) => True) D c2 (fun _ => wX ad ca (mvR T a b 4) n kc ko kv k lo hi bw bb pk) (fA ad 10)) 0 0 (fA ad 10) := by
  refine met_of RX0 rfl (by decide) (Nat.le_of_ble_eq_true rfl) (fun p e s m below meth cd ls E hr hlk _ hB hl => ?_)
  obtain ⟨hP, hK⟩ := hB
  have hl : lv_has ls 4 [(0, .ref (ad 0)), (1, .int (nI a)), (2, .int (nI b))] := hl
  have hS : va_S (fA ad 10) s.heap s.heap [] := va_S.rf
  refine lv_iconst (v := nI 0) E.1 E.2.1 dX0_moveRow_0 rfl ?_
  refine lv_istore_n (lv' := [(3, .int (nI 0)), (0, .ref (ad 0)), (1, .int (nI a)), (2, .int (nI b))]) E.1 E.2.1 dX0_moveRow_1 rfl hl (by decide) rfl (fun ls hl => ?_)
  rw [← mvR_0 T a b] at hP
  refine w_lq1 (fun (d : Nat) => d ≤ 4) (fun (d : Nat) => 4 - d) (fun (d : Nat) => [(3, .int (nI d)), (0, .ref (ad 0)), (1, .int (nI a)), (2, .int (nI b))]) (fun (d : Nat) H locs => va_P D c2 (wX ad ca (mvR T a b d) n kc ko kv k lo hi bw bb pk) H ∧ va_S (fA ad 10) s.heap H locs) 0 (Nat.zero_le _) ⟨hP, hS⟩ (lv_sub hl [0, 1, 2, 3] rfl) (fun d ls H locs hI hB hl ih2 => ?_)
  obtain ⟨hP, hS⟩ := hB
  have hl : lv_has ls 4 [(3, .int (nI d)), (0, .ref (ad 0)), (1, .int (nI a)), (2, .int (nI b))] := hl
  have hP : va_P D c2 (wX ad ca (mvR T a b d) n kc ko kv k lo hi bw bb pk) H := hP
  refine lv_iload_n E.1 E.2.1 dX0_moveRow_2 rfl (lv_at hl 0 rfl) ?_
  refine lv_iconst (v := nI 4) E.1 E.2.1 dX0_moveRow_3 rfl ?_
  refine n_icmp_ge (tgt := 33) E dX0_moveRow_4 rfl (by omega) (by omega) (fun h4 => ?_) (fun h4 => ?_)
  · skip
    exact e_wv E hr hlk hS () trivial (by rw [show d = 4 by omega] at hP; exact hP) dX0_moveRow_33
  · skip
    refine lv_aload_n E.1 E.2.1 dX0_moveRow_7 rfl (lv_at hl 1 rfl) ?_
    refine n_get E inX hK hP 0 rfl rfl 0 (by decide) flX_9 rfl rfl dX0_moveRow_8 ?_
    refine lv_iload_n E.1 E.2.1 dX0_moveRow_11 rfl (lv_at hl 3 rfl) ?_
    refine lv_iload_n E.1 E.2.1 dX0_moveRow_12 rfl (lv_at hl 0 rfl) ?_
    refine cS_i E (As := [.int (nI b), .int (nI d)]) (rest := [.ref (ad 1)]) (cX_spot l b d) kX_52 rfl rfl ⟨Nat.le_of_ble_eq_true rfl, Nat.le_of_ble_eq_true rfl⟩ rfl hl.1 rfl (Nat.le_of_ble_eq_true rfl) dX0_moveRow_13 ⟨Nat.zero_le _, Nat.zero_le _⟩ ?_
    refine lv_aload_n E.1 E.2.1 dX0_moveRow_16 rfl (lv_at hl 1 rfl) ?_
    refine n_get E inX hK hP 0 rfl rfl 0 (by decide) flX_9 rfl rfl dX0_moveRow_17 ?_
    refine lv_iload_n E.1 E.2.1 dX0_moveRow_20 rfl (lv_at hl 2 rfl) ?_
    refine lv_iload_n E.1 E.2.1 dX0_moveRow_21 rfl (lv_at hl 0 rfl) ?_
    refine cS_i E (As := [.int (nI a), .int (nI d)]) (rest := [.ref (ad 1), .int (nI (d * 128 + b)), .ref (ad 1)]) (cX_spot l a d) kX_52 rfl rfl ⟨Nat.le_of_ble_eq_true rfl, Nat.le_of_ble_eq_true rfl⟩ rfl hl.1 rfl (Nat.le_of_ble_eq_true rfl) dX0_moveRow_22 ⟨Nat.zero_le _, Nat.zero_le _⟩ ?_
    refine n_cald E hK hP 1 0 rfl rfl a d (by omega) (by omega) (by omega) dX0_moveRow_25 ?_
    refine n_cast E hK hP (dW hN rfl) hS 1 0 rfl rfl b d (by omega) (by omega) (by omega) dX0_moveRow_26 (fun H locs hP hS => ?_)
    have hP : va_P D c2 (wX ad ca (tS (mvR T a b d) b d (mvR T a b d a d)) n kc ko kv k lo hi bw bb pk) H := hP
    refine lv_iinc (k := 0) (v := nI (d + 1)) (lv' := [(3, .int (nI (d + 1))), (0, .ref (ad 0)), (1, .int (nI a)), (2, .int (nI b))]) E.1 E.2.1 dX0_moveRow_27 hl rfl (inc1 _) (by decide) rfl (fun ls hl => ?_)
    refine lv_goto (tgt := 2) E.1 E.2.1 dX0_moveRow_30 rfl ?_
    rw [mvR_s] at hP
    exact ih2 (d + 1) _ _ _ (by omega) (by omega) ⟨hP, hS⟩ (lv_sub hl [0, 1, 2, 3] rfl)
end
section
/-! Contracts of the hall: laid by program (wip/whole/gen.py). -/
set_option maxHeartbeats 4000000 in
set_option maxRecDepth 100000 in
theorem cX_refuseBadColumn (l : Launch) (c : Nat) (hc : c < 4) : Met l yX0_refuseBadColumn (wA yX0_refuseBadColumn cX0_refuseBadColumn 1 none) (rN 0) (va_Pc [.int (nI c)] (fun _ => True)) (va_Sv (fun _ => True)) 0 0 (fun _ => False) := by
  refine met_of RX0 rfl (by decide) (Nat.le_of_ble_eq_true rfl) (fun p e s m below meth cd ls E hr hlk _ hB hl => ?_)
  have hl : lv_has ls 1 [(0, .int (nI c))] := hl
  refine lv_iload_n E.1 E.2.1 dX0_refuseBadColumn_0 rfl (lv_at hl 0 rfl) ?_
  refine n_if_lt (tgt := 9) E dX0_refuseBadColumn_1 rfl (by omega) ?_
  refine lv_iload_n E.1 E.2.1 dX0_refuseBadColumn_4 rfl (lv_at hl 0 rfl) ?_
  refine lv_iconst (v := nI 4) E.1 E.2.1 dX0_refuseBadColumn_5 rfl ?_
  refine n_icmp_lt (tgt := 19) E dX0_refuseBadColumn_6 rfl (by omega) (by omega) (fun h6 => ?_) (fun h6 => ?_)
  · skip
    exact e_v E hr hlk dX0_refuseBadColumn_19
  · skip
    exfalso; omega
set_option maxHeartbeats 4000000 in
set_option maxRecDepth 100000 in
theorem cX_refuseUnpackedBlock (l : Launch) (D : va_G) (ad : Nat → Nat) (ca : Nat → ClassId) (T : Nat → Nat → Int64) (n : Nat) (kc ko : Nat → Nat) (kv : Nat → Int64) (k : Nat) (lo hi : Nat → Int64) (bw bb pk : Nat → Nat) (b : Nat) (hn128 : n ≤ 128) (hb : b < n / 16) : Met l yX0_refuseUnpackedBlock (wA yX0_refuseUnpackedBlock cX0_refuseUnpackedBlock 2 none) (rN 1) (va_Pc [.ref (ad 0), .int (nI b)] (pW D c2 (tX ca) (wX ad ca T n kc ko kv k lo hi bw bb pk))) (va_Sv (fun _ => True)) 0 0 (fun _ => False) := by
  refine met_of RX0 rfl (by decide) (Nat.le_of_ble_eq_true rfl) (fun p e s m below meth cd ls E hr hlk _ hB hl => ?_)
  obtain ⟨hP, hK⟩ := hB
  have hl : lv_has ls 2 [(0, .ref (ad 0)), (1, .int (nI b))] := hl
  refine lv_iload_n E.1 E.2.1 dX0_refuseUnpackedBlock_0 rfl (lv_at hl 1 rfl) ?_
  refine n_if_lt (tgt := 12) E dX0_refuseUnpackedBlock_1 rfl (by omega) ?_
  refine lv_iload_n E.1 E.2.1 dX0_refuseUnpackedBlock_4 rfl (lv_at hl 1 rfl) ?_
  refine lv_aload_n E.1 E.2.1 dX0_refuseUnpackedBlock_5 rfl (lv_at hl 0 rfl) ?_
  refine cV_i E (As := []) (rest := [.int (nI b)]) (cX_fullBlocks l D ad ca T n kc ko kv k lo hi bw bb pk (by omega)) kX_135 hK hP 0 rfl rfl rfl rfl ⟨Nat.le_of_ble_eq_true rfl, Nat.le_of_ble_eq_true rfl⟩ rfl hl.1 rfl (Nat.le_of_ble_eq_true rfl) dX0_refuseUnpackedBlock_6 ⟨Nat.zero_le _, Nat.zero_le _⟩ ?_
  refine n_icmp_lt (tgt := 22) E dX0_refuseUnpackedBlock_9 rfl (by omega) (by omega) (fun h9 => ?_) (fun h9 => ?_)
  · skip
    exact e_v E hr hlk dX0_refuseUnpackedBlock_22
  · skip
    exfalso; omega
set_option maxHeartbeats 4000000 in
set_option maxRecDepth 100000 in
theorem cX_comesBefore (l : Launch) (x y : Int64) (d : Bool)  : Met l yX0_comesBefore (wA yX0_comesBefore cX0_comesBefore 5 (some .boolean)) (rN 0) (va_Pc [.long x, .long y, .int (bI d)] (fun _ => True)) (vp_Si (fun z => z = bI (bef d x y))) 0 0 (fun _ => False) := by
  refine met_of RX0 rfl (by decide) (Nat.le_of_ble_eq_true rfl) (fun p e s m below meth cd ls E hr hlk _ hB hl => ?_)
  have hl : lv_has ls 5 [(0, .long x), (2, .long y), (4, .int (bI d))] := hl
  refine lv_iload E.1 E.2.1 dX0_comesBefore_0 (lv_at hl 2 rfl) ?_
  refine b_if_eq (tgt := 19) E dX0_comesBefore_2 rfl (fun h2 => ?_) (fun h2 => ?_)
  · skip
    refine lv_lload_n E.1 E.2.1 dX0_comesBefore_19 rfl (lv_at hl 0 rfl) ?_
    refine lv_lload_n E.1 E.2.1 dX0_comesBefore_20 rfl (lv_at hl 1 rfl) ?_
    refine l_if_ge (tgt := 29) E dX0_comesBefore_21 dX0_comesBefore_22 rfl (fun h21 => ?_) (fun h21 => ?_)
    · skip
      refine lv_iconst (v := nI 0) E.1 E.2.1 dX0_comesBefore_29 rfl ?_
      exact e_z E hr hlk (show _ = _ from congrArg bI (show false = _ from by simp [bef, h2, h21])) dX0_comesBefore_30
    · skip
      refine lv_iconst (v := nI 1) E.1 E.2.1 dX0_comesBefore_25 rfl ?_
      refine lv_goto (tgt := 30) E.1 E.2.1 dX0_comesBefore_26 rfl ?_
      exact e_z E hr hlk (show _ = _ from congrArg bI (show true = _ from by simp [bef, h2, h21])) dX0_comesBefore_30
  · skip
    refine lv_lload_n E.1 E.2.1 dX0_comesBefore_5 rfl (lv_at hl 0 rfl) ?_
    refine lv_lload_n E.1 E.2.1 dX0_comesBefore_6 rfl (lv_at hl 1 rfl) ?_
    refine l_if_le (tgt := 15) E dX0_comesBefore_7 dX0_comesBefore_8 rfl (fun h7 => ?_) (fun h7 => ?_)
    · skip
      refine lv_iconst (v := nI 0) E.1 E.2.1 dX0_comesBefore_15 rfl ?_
      refine lv_goto (tgt := 30) E.1 E.2.1 dX0_comesBefore_16 rfl ?_
      exact e_z E hr hlk (show _ = _ from congrArg bI (show false = _ from by simp [bef, h2, h7])) dX0_comesBefore_30
    · skip
      refine lv_iconst (v := nI 1) E.1 E.2.1 dX0_comesBefore_11 rfl ?_
      refine lv_goto (tgt := 30) E.1 E.2.1 dX0_comesBefore_12 rfl ?_
      exact e_z E hr hlk (show _ = _ from congrArg bI (show true = _ from by simp [bef, h2, h7])) dX0_comesBefore_30
set_option maxHeartbeats 4000000 in
set_option maxRecDepth 100000 in
theorem cX_sumOfPicked (l : Launch) (D : va_G) (ad : Nat → Nat) (ca : Nat → ClassId) (T : Nat → Nat → Int64) (n : Nat) (kc ko : Nat → Nat) (kv : Nat → Int64) (k : Nat) (lo hi : Nat → Int64) (bw bb pk : Nat → Nat) (c a b : Nat) (hc : c < 4) (hab : a ≤ b) (hb : b ≤ 128) (hpk : ∀ j, j < b → pk j < 128) : Met l yX0_sumOfPicked (wA yX0_sumOfPicked cX0_sumOfPicked 7 (some .long)) (rN 1) (va_Pc [.ref (ad 0), .int (nI c), .int (nI a), .int (nI b)] (pW D c2 (tX ca) (wX ad ca T n kc ko kv k lo hi bw bb pk))) (vp_Sl (fun z => z = sm (fun j => T (pk (a + j)) c) (b - a))) 0 0 (fun _ => False) := by
  refine met_of RX0 rfl (by decide) (Nat.le_of_ble_eq_true rfl) (fun p e s m below meth cd ls E hr hlk _ hB hl => ?_)
  obtain ⟨hP, hK⟩ := hB
  have hl : lv_has ls 7 [(0, .ref (ad 0)), (1, .int (nI c)), (2, .int (nI a)), (3, .int (nI b))] := hl
  refine lv_lconst (v := 0) E.1 E.2.1 dX0_sumOfPicked_0 rfl ?_
  refine lv_lstore (lv' := [(4, .long 0), (0, .ref (ad 0)), (1, .int (nI c)), (2, .int (nI a)), (3, .int (nI b))]) E.1 E.2.1 dX0_sumOfPicked_1 hl (by decide) rfl (fun ls hl => ?_)
  refine lv_iload_n E.1 E.2.1 dX0_sumOfPicked_3 rfl (lv_at hl 3 rfl) ?_
  refine lv_istore (lv' := [(6, .int (nI a)), (4, .long 0), (0, .ref (ad 0)), (1, .int (nI c)), (2, .int (nI a)), (3, .int (nI b))]) E.1 E.2.1 dX0_sumOfPicked_4 hl (by decide) rfl (fun ls hl => ?_)
  refine w_lp1 (fun (d : Nat) => a + d ≤ b) (fun (d : Nat) => b - (a + d)) (fun (d : Nat) => [(6, .int (nI (a + d))), (4, .long (sm (fun j => T (pk (a + j)) c) d)), (0, .ref (ad 0)), (1, .int (nI c)), (2, .int (nI a)), (3, .int (nI b))]) 0 (by omega) (lv_sub hl [0, 1, 2, 3, 4, 5] rfl) (fun d ls hI hl ih6 => ?_)
  have hl : lv_has ls 7 [(6, .int (nI (a + d))), (4, .long (sm (fun j => T (pk (a + j)) c) d)), (0, .ref (ad 0)), (1, .int (nI c)), (2, .int (nI a)), (3, .int (nI b))] := hl
  refine lv_iload E.1 E.2.1 dX0_sumOfPicked_6 (lv_at hl 0 rfl) ?_
  refine lv_iload_n E.1 E.2.1 dX0_sumOfPicked_8 rfl (lv_at hl 5 rfl) ?_
  refine n_icmp_ge (tgt := 39) E dX0_sumOfPicked_9 rfl (by omega) (by omega) (fun h9 => ?_) (fun h9 => ?_)
  · skip
    refine lv_lload E.1 E.2.1 dX0_sumOfPicked_39 (lv_at hl 1 rfl) ?_
    exact e_l E hr hlk (by rw [show b - a = d by omega]) dX0_sumOfPicked_41
  · skip
    refine lv_lload E.1 E.2.1 dX0_sumOfPicked_12 (lv_at hl 1 rfl) ?_
    refine lv_aload_n E.1 E.2.1 dX0_sumOfPicked_14 rfl (lv_at hl 2 rfl) ?_
    refine n_get E inX hK hP 0 rfl rfl 0 (by decide) flX_9 rfl rfl dX0_sumOfPicked_15 ?_
    refine lv_aload_n E.1 E.2.1 dX0_sumOfPicked_18 rfl (lv_at hl 2 rfl) ?_
    refine n_get E inX hK hP 0 rfl rfl 10 (by decide) flX_42 rfl rfl dX0_sumOfPicked_19 ?_
    refine lv_iload E.1 E.2.1 dX0_sumOfPicked_22 (lv_at hl 0 rfl) ?_
    have hq := hpk (a + d) (by omega)
    refine n_iald E hK hP 9 8 rfl rfl (by decide) (by omega) dX0_sumOfPicked_24 ?_
    refine lv_iload_n E.1 E.2.1 dX0_sumOfPicked_25 rfl (lv_at hl 3 rfl) ?_
    refine cS_i E (As := [.int (nI (pk (a + d))), .int (nI c)]) (rest := [.ref (ad 1), .long (sm (fun j => T (pk (a + j)) c) d)]) (cX_spot l (pk (a + d)) c) kX_52 rfl rfl ⟨Nat.le_of_ble_eq_true rfl, Nat.le_of_ble_eq_true rfl⟩ rfl hl.1 rfl (Nat.le_of_ble_eq_true rfl) dX0_sumOfPicked_26 ⟨Nat.zero_le _, Nat.zero_le _⟩ ?_
    refine n_cald E hK hP 1 0 rfl rfl (pk (a + d)) c (by omega) (by omega) (by omega) dX0_sumOfPicked_29 ?_
    refine lv_ladd E.1 E.2.1 dX0_sumOfPicked_30 ?_
    refine lv_lstore (lv' := [(4, .long ((sm (fun j => T (pk (a + j)) c) d) + (T (pk (a + d)) c))), (6, .int (nI (a + d))), (0, .ref (ad 0)), (1, .int (nI c)), (2, .int (nI a)), (3, .int (nI b))]) E.1 E.2.1 dX0_sumOfPicked_31 hl (by decide) rfl (fun ls hl => ?_)
    refine lv_iinc (k := 1) (v := nI (a + d + 1)) (lv' := [(6, .int (nI (a + d + 1))), (4, .long ((sm (fun j => T (pk (a + j)) c) d) + (T (pk (a + d)) c))), (0, .ref (ad 0)), (1, .int (nI c)), (2, .int (nI a)), (3, .int (nI b))]) E.1 E.2.1 dX0_sumOfPicked_33 hl rfl (inc1 _) (by decide) rfl (fun ls hl => ?_)
    refine lv_goto (tgt := 6) E.1 E.2.1 dX0_sumOfPicked_36 rfl ?_
    exact ih6 (d + 1) _ (by omega) (by omega) (lv_sub hl [0, 1, 2, 3, 4, 5] rfl)
set_option maxHeartbeats 4000000 in
set_option maxRecDepth 100000 in
theorem cX_boundOfPicked (l : Launch) (D : va_G) (ad : Nat → Nat) (ca : Nat → ClassId) (T : Nat → Nat → Int64) (n : Nat) (kc ko : Nat → Nat) (kv : Nat → Int64) (k : Nat) (lo hi : Nat → Int64) (bw bb pk : Nat → Nat) (c : Nat) (d : Bool) (a b : Nat) (hc : c < 4) (hab : a < b) (hb : b ≤ 128) (hpk : ∀ j, j < b → pk j < 128) : Met l yX0_boundOfPicked (wA yX0_boundOfPicked cX0_boundOfPicked 10 (some .long)) (rN 1) (va_Pc [.ref (ad 0), .int (nI c), .int (bI d), .int (nI a), .int (nI b)] (pW D c2 (tX ca) (wX ad ca T n kc ko kv k lo hi bw bb pk))) (vp_Sl (fun z => z = bnd (fun j => T (pk (a + j)) c) d (b - a - 1))) 0 0 (fun _ => False) := by
  refine met_of RX0 rfl (by decide) (Nat.le_of_ble_eq_true rfl) (fun p e s m below meth cd ls E hr hlk _ hB hl => ?_)
  obtain ⟨hP, hK⟩ := hB
  have hl : lv_has ls 10 [(0, .ref (ad 0)), (1, .int (nI c)), (2, .int (bI d)), (3, .int (nI a)), (4, .int (nI b))] := hl
  refine lv_aload_n E.1 E.2.1 dX0_boundOfPicked_0 rfl (lv_at hl 0 rfl) ?_
  refine n_get E inX hK hP 0 rfl rfl 0 (by decide) flX_9 rfl rfl dX0_boundOfPicked_1 ?_
  refine lv_aload_n E.1 E.2.1 dX0_boundOfPicked_4 rfl (lv_at hl 0 rfl) ?_
  refine n_get E inX hK hP 0 rfl rfl 10 (by decide) flX_42 rfl rfl dX0_boundOfPicked_5 ?_
  refine lv_iload_n E.1 E.2.1 dX0_boundOfPicked_8 rfl (lv_at hl 3 rfl) ?_
  have hq := hpk a (by omega)
  refine n_iald E hK hP 9 8 rfl rfl (by decide) (by omega) dX0_boundOfPicked_9 ?_
  refine lv_iload_n E.1 E.2.1 dX0_boundOfPicked_10 rfl (lv_at hl 1 rfl) ?_
  refine cS_i E (As := [.int (nI (pk a)), .int (nI c)]) (rest := [.ref (ad 1)]) (cX_spot l (pk a) c) kX_52 rfl rfl ⟨Nat.le_of_ble_eq_true rfl, Nat.le_of_ble_eq_true rfl⟩ rfl hl.1 rfl (Nat.le_of_ble_eq_true rfl) dX0_boundOfPicked_11 ⟨Nat.zero_le _, Nat.zero_le _⟩ ?_
  refine n_cald E hK hP 1 0 rfl rfl (pk a) c (by omega) (by omega) (by omega) dX0_boundOfPicked_14 ?_
  refine lv_lstore (lv' := [(5, .long (T (pk a) c)), (0, .ref (ad 0)), (1, .int (nI c)), (2, .int (bI d)), (3, .int (nI a)), (4, .int (nI b))]) E.1 E.2.1 dX0_boundOfPicked_15 hl (by decide) rfl (fun ls hl => ?_)
  refine lv_iload_n E.1 E.2.1 dX0_boundOfPicked_17 rfl (lv_at hl 4 rfl) ?_
  refine lv_iconst (v := nI 1) E.1 E.2.1 dX0_boundOfPicked_18 rfl ?_
  refine n_iadd E dX0_boundOfPicked_19 ?_
  refine lv_istore (lv' := [(7, .int (nI (a + 1))), (5, .long (T (pk a) c)), (0, .ref (ad 0)), (1, .int (nI c)), (2, .int (bI d)), (3, .int (nI a)), (4, .int (nI b))]) E.1 E.2.1 dX0_boundOfPicked_20 hl (by decide) rfl (fun ls hl => ?_)
  refine w_lp1 (fun (j : Nat) => a + (j + 1) ≤ b) (fun (j : Nat) => b - (a + j)) (fun (j : Nat) => [(7, .int (nI (a + (j + 1)))), (5, .long (bnd (fun j => T (pk (a + j)) c) d j)), (0, .ref (ad 0)), (1, .int (nI c)), (2, .int (bI d)), (3, .int (nI a)), (4, .int (nI b))]) 0 (by omega) (lv_sub hl [0, 1, 2, 3, 4, 5, 6] rfl) (fun j ls hI hl ih22 => ?_)
  have hl : lv_has ls 10 [(7, .int (nI (a + (j + 1)))), (5, .long (bnd (fun j => T (pk (a + j)) c) d j)), (0, .ref (ad 0)), (1, .int (nI c)), (2, .int (bI d)), (3, .int (nI a)), (4, .int (nI b))] := hl
  refine lv_iload E.1 E.2.1 dX0_boundOfPicked_22 (lv_at hl 0 rfl) ?_
  refine lv_iload E.1 E.2.1 dX0_boundOfPicked_24 (lv_at hl 6 rfl) ?_
  refine n_icmp_ge (tgt := 80) E dX0_boundOfPicked_26 rfl (by omega) (by omega) (fun h26 => ?_) (fun h26 => ?_)
  · skip
    refine lv_lload E.1 E.2.1 dX0_boundOfPicked_80 (lv_at hl 1 rfl) ?_
    exact e_l E hr hlk (by rw [show b - a - 1 = j by omega]) dX0_boundOfPicked_82
  · skip
    refine lv_aload_n E.1 E.2.1 dX0_boundOfPicked_29 rfl (lv_at hl 2 rfl) ?_
    refine n_get E inX hK hP 0 rfl rfl 0 (by decide) flX_9 rfl rfl dX0_boundOfPicked_30 ?_
    refine lv_aload_n E.1 E.2.1 dX0_boundOfPicked_33 rfl (lv_at hl 2 rfl) ?_
    refine n_get E inX hK hP 0 rfl rfl 10 (by decide) flX_42 rfl rfl dX0_boundOfPicked_34 ?_
    refine lv_iload E.1 E.2.1 dX0_boundOfPicked_37 (lv_at hl 0 rfl) ?_
    have hq := hpk (a + (j + 1)) (by omega)
    refine n_iald E hK hP 9 8 rfl rfl (by decide) (by omega) dX0_boundOfPicked_39 ?_
    refine lv_iload_n E.1 E.2.1 dX0_boundOfPicked_40 rfl (lv_at hl 3 rfl) ?_
    refine cS_i E (As := [.int (nI (pk (a + (j + 1)))), .int (nI c)]) (rest := [.ref (ad 1)]) (cX_spot l (pk (a + (j + 1))) c) kX_52 rfl rfl ⟨Nat.le_of_ble_eq_true rfl, Nat.le_of_ble_eq_true rfl⟩ rfl hl.1 rfl (Nat.le_of_ble_eq_true rfl) dX0_boundOfPicked_41 ⟨Nat.zero_le _, Nat.zero_le _⟩ ?_
    refine n_cald E hK hP 1 0 rfl rfl (pk (a + (j + 1))) c (by omega) (by omega) (by omega) dX0_boundOfPicked_44 ?_
    refine lv_lstore (lv' := [(8, .long (T (pk (a + (j + 1))) c)), (7, .int (nI (a + (j + 1)))), (5, .long (bnd (fun j => T (pk (a + j)) c) d j)), (0, .ref (ad 0)), (1, .int (nI c)), (2, .int (bI d)), (3, .int (nI a)), (4, .int (nI b))]) E.1 E.2.1 dX0_boundOfPicked_45 hl (by decide) rfl (fun ls hl => ?_)
    refine lv_iload_n E.1 E.2.1 dX0_boundOfPicked_47 rfl (lv_at hl 5 rfl) ?_
    refine b_if_eq (tgt := 62) E dX0_boundOfPicked_48 rfl (fun h48 => ?_) (fun h48 => ?_)
    · skip
      refine lv_lload E.1 E.2.1 dX0_boundOfPicked_62 (lv_at hl 0 rfl) ?_
      refine lv_lload E.1 E.2.1 dX0_boundOfPicked_64 (lv_at hl 2 rfl) ?_
      refine l_if_ge (tgt := 74) E dX0_boundOfPicked_66 dX0_boundOfPicked_67 rfl (fun h66 => ?_) (fun h66 => ?_)
      · skip
        refine lv_iinc (k := 1) (v := nI (a + (j + 1) + 1)) (lv' := [(7, .int (nI (a + (j + 1) + 1))), (8, .long (T (pk (a + (j + 1))) c)), (5, .long (bnd (fun j => T (pk (a + j)) c) d j)), (0, .ref (ad 0)), (1, .int (nI c)), (2, .int (bI d)), (3, .int (nI a)), (4, .int (nI b))]) E.1 E.2.1 dX0_boundOfPicked_74 hl rfl (inc1 _) (by decide) rfl (fun ls hl => ?_)
        refine lv_goto (tgt := 22) E.1 E.2.1 dX0_boundOfPicked_77 rfl ?_
        subst h48
        have e9 := bnd_f (f := (fun j => T (pk (a + j)) c)) (bef_Ff h66)
        rw [← e9] at hl
        exact ih22 (j + 1) _ (by omega) (by omega) (lv_sub hl [0, 2, 3, 4, 5, 6, 7] rfl)
      · skip
        refine lv_lload E.1 E.2.1 dX0_boundOfPicked_70 (lv_at hl 0 rfl) ?_
        refine lv_lstore (lv' := [(5, .long (T (pk (a + (j + 1))) c)), (8, .long (T (pk (a + (j + 1))) c)), (7, .int (nI (a + (j + 1)))), (0, .ref (ad 0)), (1, .int (nI c)), (2, .int (bI d)), (3, .int (nI a)), (4, .int (nI b))]) E.1 E.2.1 dX0_boundOfPicked_72 hl (by decide) rfl (fun ls hl => ?_)
        refine lv_iinc (k := 2) (v := nI (a + (j + 1) + 1)) (lv' := [(7, .int (nI (a + (j + 1) + 1))), (5, .long (T (pk (a + (j + 1))) c)), (8, .long (T (pk (a + (j + 1))) c)), (0, .ref (ad 0)), (1, .int (nI c)), (2, .int (bI d)), (3, .int (nI a)), (4, .int (nI b))]) E.1 E.2.1 dX0_boundOfPicked_74 hl rfl (inc1 _) (by decide) rfl (fun ls hl => ?_)
        refine lv_goto (tgt := 22) E.1 E.2.1 dX0_boundOfPicked_77 rfl ?_
        subst h48
        have e9 := bnd_t (f := (fun j => T (pk (a + j)) c)) (bef_Ft h66)
        have e8 : T (pk (a + (j + 1))) c = _ := e9.symm
        rw [e8] at hl
        exact ih22 (j + 1) _ (by omega) (by omega) (lv_sub hl [0, 1, 3, 4, 5, 6, 7] rfl)
    · skip
      refine lv_lload E.1 E.2.1 dX0_boundOfPicked_51 (lv_at hl 0 rfl) ?_
      refine lv_lload E.1 E.2.1 dX0_boundOfPicked_53 (lv_at hl 2 rfl) ?_
      refine l_if_le (tgt := 74) E dX0_boundOfPicked_55 dX0_boundOfPicked_56 rfl (fun h55 => ?_) (fun h55 => ?_)
      · skip
        refine lv_iinc (k := 1) (v := nI (a + (j + 1) + 1)) (lv' := [(7, .int (nI (a + (j + 1) + 1))), (8, .long (T (pk (a + (j + 1))) c)), (5, .long (bnd (fun j => T (pk (a + j)) c) d j)), (0, .ref (ad 0)), (1, .int (nI c)), (2, .int (bI d)), (3, .int (nI a)), (4, .int (nI b))]) E.1 E.2.1 dX0_boundOfPicked_74 hl rfl (inc1 _) (by decide) rfl (fun ls hl => ?_)
        refine lv_goto (tgt := 22) E.1 E.2.1 dX0_boundOfPicked_77 rfl ?_
        subst h48
        have e9 := bnd_f (f := (fun j => T (pk (a + j)) c)) (bef_Tf h55)
        rw [← e9] at hl
        exact ih22 (j + 1) _ (by omega) (by omega) (lv_sub hl [0, 2, 3, 4, 5, 6, 7] rfl)
      · skip
        refine lv_goto (tgt := 70) E.1 E.2.1 dX0_boundOfPicked_59 rfl ?_
        refine lv_lload E.1 E.2.1 dX0_boundOfPicked_70 (lv_at hl 0 rfl) ?_
        refine lv_lstore (lv' := [(5, .long (T (pk (a + (j + 1))) c)), (8, .long (T (pk (a + (j + 1))) c)), (7, .int (nI (a + (j + 1)))), (0, .ref (ad 0)), (1, .int (nI c)), (2, .int (bI d)), (3, .int (nI a)), (4, .int (nI b))]) E.1 E.2.1 dX0_boundOfPicked_72 hl (by decide) rfl (fun ls hl => ?_)
        refine lv_iinc (k := 2) (v := nI (a + (j + 1) + 1)) (lv' := [(7, .int (nI (a + (j + 1) + 1))), (5, .long (T (pk (a + (j + 1))) c)), (8, .long (T (pk (a + (j + 1))) c)), (0, .ref (ad 0)), (1, .int (nI c)), (2, .int (bI d)), (3, .int (nI a)), (4, .int (nI b))]) E.1 E.2.1 dX0_boundOfPicked_74 hl rfl (inc1 _) (by decide) rfl (fun ls hl => ?_)
        refine lv_goto (tgt := 22) E.1 E.2.1 dX0_boundOfPicked_77 rfl ?_
        subst h48
        have e9 := bnd_t (f := (fun j => T (pk (a + j)) c)) (bef_Tt h55)
        have e8 : T (pk (a + (j + 1))) c = _ := e9.symm
        rw [e8] at hl
        exact ih22 (j + 1) _ (by omega) (by omega) (lv_sub hl [0, 1, 3, 4, 5, 6, 7] rfl)
set_option maxHeartbeats 4000000 in
set_option maxRecDepth 100000 in
theorem cX_sortPicked (l : Launch) (D : va_G) (ad : Nat → Nat) (ca : Nat → ClassId) (T : Nat → Nat → Int64) (n : Nat) (kc ko : Nat → Nat) (kv : Nat → Int64) (k : Nat) (lo hi : Nat → Int64) (bw bb pk : Nat → Nat) (m0 c : Nat) (d : Bool) (hN : inj ad 10) (hm128 : m0 ≤ 128) (hc : c < 4) (hup : ∀ i j, i < j → j < m0 → pk i < pk j) (hpk : ∀ j, j < m0 → pk j < 128) : Met l yX0_sortPicked (wA yX0_sortPicked cX0_sortPicked 9 none) (rN 1) (va_Pc [.ref (ad 0), .int (nI m0), .int (nI c), .int (bI d)] (pW D c2 (tX ca) (wX ad ca T n kc ko kv k lo hi bw bb pk))) (qV (fun (q : Nat → Nat) => Sd T c d q m0 ∧ Pm q pk m0) D c2 (fun q => wX ad ca T n kc ko kv k lo hi bw bb q) (fA ad 10)) 0 0 (fA ad 10) := by
  refine met_of RX0 rfl (by decide) (Nat.le_of_ble_eq_true rfl) (fun p e s m below meth cd ls E hr hlk _ hB hl => ?_)
  obtain ⟨hP, hK⟩ := hB
  have hl : lv_has ls 9 [(0, .ref (ad 0)), (1, .int (nI m0)), (2, .int (nI c)), (3, .int (bI d))] := hl
  have hS : va_S (fA ad 10) s.heap s.heap [] := va_S.rf
  refine lv_iconst (v := nI 1) E.1 E.2.1 dX0_sortPicked_0 rfl ?_
  refine lv_istore (lv' := [(4, .int (nI 1)), (0, .ref (ad 0)), (1, .int (nI m0)), (2, .int (nI c)), (3, .int (bI d))]) E.1 E.2.1 dX0_sortPicked_1 hl (by decide) rfl (fun ls hl => ?_)
  refine w_lq2 (fun (i : Nat) (q : Nat → Nat) => 1 ≤ i ∧ i ≤ m0 + 1 ∧ Sd T c d q i ∧ (∀ j, i ≤ j → q j = pk j) ∧ Pm q pk m0 ∧ (∀ j t, j < i → i ≤ t → t < m0 → q j < pk t)) (fun (i : Nat) (q : Nat → Nat) => m0 + 1 - i) (fun (i : Nat) (q : Nat → Nat) => [(4, .int (nI i)), (0, .ref (ad 0)), (1, .int (nI m0)), (2, .int (nI c)), (3, .int (bI d))]) (fun (i : Nat) (q : Nat → Nat) H locs => va_P D c2 (wX ad ca T n kc ko kv k lo hi bw bb q) H ∧ va_S (fA ad 10) s.heap H locs) 1 pk (⟨Nat.le_refl _, by omega, fun a b h1 h2 => by omega, fun _ _ => rfl, Pm.rf _ _, fun j t h1 h2 h3 => hup j t (by omega) h3⟩) ⟨hP, hS⟩ (lv_sub hl [0, 1, 2, 3, 4] rfl) (fun i q ls H locs hI hB hl ih3 => ?_)
  obtain ⟨hP, hS⟩ := hB
  have hl : lv_has ls 9 [(4, .int (nI i)), (0, .ref (ad 0)), (1, .int (nI m0)), (2, .int (nI c)), (3, .int (bI d))] := hl
  have hP : va_P D c2 (wX ad ca T n kc ko kv k lo hi bw bb q) H := hP
  obtain ⟨hi1, hi2, hSd, hge, hPm, hlt⟩ := hI
  refine lv_iload E.1 E.2.1 dX0_sortPicked_3 (lv_at hl 0 rfl) ?_
  refine lv_iload_n E.1 E.2.1 dX0_sortPicked_5 rfl (lv_at hl 2 rfl) ?_
  refine n_icmp_ge (tgt := 104) E dX0_sortPicked_6 rfl (by omega) (by omega) (fun h6 => ?_) (fun h6 => ?_)
  · skip
    exact e_wv E hr hlk hS q (⟨hSd.less (by omega), hPm⟩) hP dX0_sortPicked_104
  · skip
    refine lv_aload_n E.1 E.2.1 dX0_sortPicked_9 rfl (lv_at hl 1 rfl) ?_
    refine n_get E inX hK hP 0 rfl rfl 10 (by decide) flX_42 rfl rfl dX0_sortPicked_10 ?_
    refine lv_iload E.1 E.2.1 dX0_sortPicked_13 (lv_at hl 0 rfl) ?_
    have hq128 := pm_lt hPm hpk
    have hq := hq128 i (by omega)
    refine n_iald E hK hP 9 8 rfl rfl (by decide) (by omega) dX0_sortPicked_15 ?_
    refine lv_istore (lv' := [(5, .int (nI (q i))), (4, .int (nI i)), (0, .ref (ad 0)), (1, .int (nI m0)), (2, .int (nI c)), (3, .int (bI d))]) E.1 E.2.1 dX0_sortPicked_16 hl (by decide) rfl (fun ls hl => ?_)
    refine lv_aload_n E.1 E.2.1 dX0_sortPicked_18 rfl (lv_at hl 2 rfl) ?_
    refine n_get E inX hK hP 0 rfl rfl 0 (by decide) flX_9 rfl rfl dX0_sortPicked_19 ?_
    refine lv_iload E.1 E.2.1 dX0_sortPicked_22 (lv_at hl 0 rfl) ?_
    refine lv_iload_n E.1 E.2.1 dX0_sortPicked_24 rfl (lv_at hl 4 rfl) ?_
    refine cS_i E (As := [.int (nI (q i)), .int (nI c)]) (rest := [.ref (ad 1)]) (cX_spot l (q i) c) kX_52 rfl rfl ⟨Nat.le_of_ble_eq_true rfl, Nat.le_of_ble_eq_true rfl⟩ rfl hl.1 rfl (Nat.le_of_ble_eq_true rfl) dX0_sortPicked_25 ⟨Nat.zero_le _, Nat.zero_le _⟩ ?_
    refine n_cald E hK hP 1 0 rfl rfl (q i) c (by omega) (by omega) (by omega) dX0_sortPicked_28 ?_
    refine lv_lstore (lv' := [(6, .long (T (q i) c)), (5, .int (nI (q i))), (4, .int (nI i)), (0, .ref (ad 0)), (1, .int (nI m0)), (2, .int (nI c)), (3, .int (bI d))]) E.1 E.2.1 dX0_sortPicked_29 hl (by decide) rfl (fun ls hl => ?_)
    refine lv_iload E.1 E.2.1 dX0_sortPicked_31 (lv_at hl 2 rfl) ?_
    refine lv_istore (lv' := [(8, .int (nI i)), (6, .long (T (q i) c)), (5, .int (nI (q i))), (4, .int (nI i)), (0, .ref (ad 0)), (1, .int (nI m0)), (2, .int (nI c)), (3, .int (bI d))]) E.1 E.2.1 dX0_sortPicked_33 hl (by decide) rfl (fun ls hl => ?_)
    rw [← hA_0 q i] at hP
    refine w_lq1 (fun (h : Nat) => h ≤ i ∧ (∀ j, h ≤ j → j < i → bef d (T (q i) c) (T (q j) c) = true)) (fun (h : Nat) => h) (fun (h : Nat) => [(8, .int (nI h)), (4, .int (nI i)), (5, .int (nI (q i))), (6, .long (T (q i) c)), (0, .ref (ad 0)), (1, .int (nI m0)), (2, .int (nI c)), (3, .int (bI d))]) (fun (h : Nat) H locs => va_P D c2 (wX ad ca T n kc ko kv k lo hi bw bb (hA q h i)) H ∧ va_S (fA ad 10) s.heap H locs) i (⟨Nat.le_refl _, fun j h1 h2 => by omega⟩) ⟨hP, hS⟩ (lv_sub hl [0, 3, 2, 1, 4, 5, 6, 7] rfl) (fun h ls H locs hI hB hl ih35 => ?_)
    obtain ⟨hP, hS⟩ := hB
    have hl : lv_has ls 9 [(8, .int (nI h)), (4, .int (nI i)), (5, .int (nI (q i))), (6, .long (T (q i) c)), (0, .ref (ad 0)), (1, .int (nI m0)), (2, .int (nI c)), (3, .int (bI d))] := hl
    have hP : va_P D c2 (wX ad ca T n kc ko kv k lo hi bw bb (hA q h i)) H := hP
    obtain ⟨hh, hm⟩ := hI
    refine lv_iload E.1 E.2.1 dX0_sortPicked_35 (lv_at hl 0 rfl) ?_
    refine n_if_le (tgt := 89) E dX0_sortPicked_37 rfl (by omega) (fun h37 => ?_) (fun h37 => ?_)
    · skip
      refine lv_aload_n E.1 E.2.1 dX0_sortPicked_89 rfl (lv_at hl 4 rfl) ?_
      refine n_get E inX hK hP 0 rfl rfl 10 (by decide) flX_42 rfl rfl dX0_sortPicked_90 ?_
      refine lv_iload E.1 E.2.1 dX0_sortPicked_93 (lv_at hl 0 rfl) ?_
      refine lv_iload E.1 E.2.1 dX0_sortPicked_95 (lv_at hl 2 rfl) ?_
      refine n_iast E hK hP (dW hN rfl) hS 9 8 rfl rfl (by decide) (by omega) dX0_sortPicked_97 (fun H locs hP hS => ?_)
      have hP : va_P D c2 (wX ad ca T n kc ko kv k lo hi bw bb (fS (hA q h i) h (q i))) H := hP
      refine lv_iinc (k := 1) (v := nI (i + 1)) (lv' := [(4, .int (nI (i + 1))), (8, .int (nI h)), (5, .int (nI (q i))), (6, .long (T (q i) c)), (0, .ref (ad 0)), (1, .int (nI m0)), (2, .int (nI c)), (3, .int (bI d))]) E.1 E.2.1 dX0_sortPicked_98 hl rfl (inc1 _) (by decide) rfl (fun ls hl => ?_)
      refine lv_goto (tgt := 3) E.1 E.2.1 dX0_sortPicked_101 rfl ?_
      rw [hA_f] at hP
      exact ih3 (i + 1) (iA q h i) _ _ _ (⟨by omega, by omega, Sd.ins hSd hh (Or.inl h37) hm (fun j hj => by rw [hge i (Nat.le_refl i)]; exact hlt j i hj (Nat.le_refl i) (by omega)), fun j hj => by rw [iA_ge hh (by omega)]; exact hge j (by omega), (pm_iA q (show i < m0 by omega) (i - h) h (by omega)).tr hPm, fun j t h1 h2 h3 => iA_lt h1 (fun j hj => hlt j t hj (by omega) h3) (by rw [hge i (Nat.le_refl i)]; exact hup i t (by omega) h3)⟩) (by omega) ⟨hP, hS⟩ (lv_sub hl [0, 4, 5, 6, 7] rfl)
    · skip
      refine lv_lload E.1 E.2.1 dX0_sortPicked_40 (lv_at hl 3 rfl) ?_
      refine lv_aload_n E.1 E.2.1 dX0_sortPicked_42 rfl (lv_at hl 4 rfl) ?_
      refine n_get E inX hK hP 0 rfl rfl 0 (by decide) flX_9 rfl rfl dX0_sortPicked_43 ?_
      refine lv_aload_n E.1 E.2.1 dX0_sortPicked_46 rfl (lv_at hl 4 rfl) ?_
      refine n_get E inX hK hP 0 rfl rfl 10 (by decide) flX_42 rfl rfl dX0_sortPicked_47 ?_
      refine lv_iload E.1 E.2.1 dX0_sortPicked_50 (lv_at hl 0 rfl) ?_
      refine lv_iconst (v := nI 1) E.1 E.2.1 dX0_sortPicked_52 rfl ?_
      refine n_isub E (by omega) dX0_sortPicked_53 ?_
      have hq2 := hq128 (h - 1) (by omega)
      refine n_iald E hK hP 9 8 rfl rfl (by decide) (by omega) dX0_sortPicked_54 ?_
      refine tpi (y := nI (q (h - 1))) (congrArg nI (hA_at (by omega))) ?_
      refine lv_iload_n E.1 E.2.1 dX0_sortPicked_55 rfl (lv_at hl 6 rfl) ?_
      refine cS_i E (As := [.int (nI (q (h - 1))), .int (nI c)]) (rest := [.ref (ad 1), .long (T (q i) c)]) (cX_spot l (q (h - 1)) c) kX_52 rfl rfl ⟨Nat.le_of_ble_eq_true rfl, Nat.le_of_ble_eq_true rfl⟩ rfl hl.1 rfl (Nat.le_of_ble_eq_true rfl) dX0_sortPicked_56 ⟨Nat.zero_le _, Nat.zero_le _⟩ ?_
      refine n_cald E hK hP 1 0 rfl rfl (q (h - 1)) c (by omega) (by omega) (by omega) dX0_sortPicked_59 ?_
      refine lv_iload_n E.1 E.2.1 dX0_sortPicked_60 rfl (lv_at hl 7 rfl) ?_
      refine cS_i E (As := [.long (T (q i) c), .long (T (q (h - 1)) c), .int (bI d)]) (rest := []) (cX_comesBefore l (T (q i) c) (T (q (h - 1)) c) d) kX_155 rfl rfl ⟨Nat.le_of_ble_eq_true rfl, Nat.le_of_ble_eq_true rfl⟩ rfl hl.1 rfl (Nat.le_of_ble_eq_true rfl) dX0_sortPicked_61 ⟨Nat.zero_le _, Nat.zero_le _⟩ ?_
      refine b_if_eq (tgt := 89) E dX0_sortPicked_64 rfl (fun h64 => ?_) (fun h64 => ?_)
      · skip
        refine lv_aload_n E.1 E.2.1 dX0_sortPicked_89 rfl (lv_at hl 4 rfl) ?_
        refine n_get E inX hK hP 0 rfl rfl 10 (by decide) flX_42 rfl rfl dX0_sortPicked_90 ?_
        refine lv_iload E.1 E.2.1 dX0_sortPicked_93 (lv_at hl 0 rfl) ?_
        refine lv_iload E.1 E.2.1 dX0_sortPicked_95 (lv_at hl 2 rfl) ?_
        refine n_iast E hK hP (dW hN rfl) hS 9 8 rfl rfl (by decide) (by omega) dX0_sortPicked_97 (fun H locs hP hS => ?_)
        have hP : va_P D c2 (wX ad ca T n kc ko kv k lo hi bw bb (fS (hA q h i) h (q i))) H := hP
        refine lv_iinc (k := 1) (v := nI (i + 1)) (lv' := [(4, .int (nI (i + 1))), (8, .int (nI h)), (5, .int (nI (q i))), (6, .long (T (q i) c)), (0, .ref (ad 0)), (1, .int (nI m0)), (2, .int (nI c)), (3, .int (bI d))]) E.1 E.2.1 dX0_sortPicked_98 hl rfl (inc1 _) (by decide) rfl (fun ls hl => ?_)
        refine lv_goto (tgt := 3) E.1 E.2.1 dX0_sortPicked_101 rfl ?_
        rw [hA_f] at hP
        exact ih3 (i + 1) (iA q h i) _ _ _ (⟨by omega, by omega, Sd.ins hSd hh (Or.inr h64) hm (fun j hj => by rw [hge i (Nat.le_refl i)]; exact hlt j i hj (Nat.le_refl i) (by omega)), fun j hj => by rw [iA_ge hh (by omega)]; exact hge j (by omega), (pm_iA q (show i < m0 by omega) (i - h) h (by omega)).tr hPm, fun j t h1 h2 h3 => iA_lt h1 (fun j hj => hlt j t hj (by omega) h3) (by rw [hge i (Nat.le_refl i)]; exact hup i t (by omega) h3)⟩) (by omega) ⟨hP, hS⟩ (lv_sub hl [0, 4, 5, 6, 7] rfl)
      · skip
        refine lv_aload_n E.1 E.2.1 dX0_sortPicked_67 rfl (lv_at hl 4 rfl) ?_
        refine n_get E inX hK hP 0 rfl rfl 10 (by decide) flX_42 rfl rfl dX0_sortPicked_68 ?_
        refine lv_iload E.1 E.2.1 dX0_sortPicked_71 (lv_at hl 0 rfl) ?_
        refine lv_aload_n E.1 E.2.1 dX0_sortPicked_73 rfl (lv_at hl 4 rfl) ?_
        refine n_get E inX hK hP 0 rfl rfl 10 (by decide) flX_42 rfl rfl dX0_sortPicked_74 ?_
        refine lv_iload E.1 E.2.1 dX0_sortPicked_77 (lv_at hl 0 rfl) ?_
        refine lv_iconst (v := nI 1) E.1 E.2.1 dX0_sortPicked_79 rfl ?_
        refine n_isub E (by omega) dX0_sortPicked_80 ?_
        refine n_iald E hK hP 9 8 rfl rfl (by decide) (by omega) dX0_sortPicked_81 ?_
        refine tpi (y := nI (q (h - 1))) (congrArg nI (hA_at (by omega))) ?_
        refine n_iast E hK hP (dW hN rfl) hS 9 8 rfl rfl (by decide) (by omega) dX0_sortPicked_82 (fun H locs hP hS => ?_)
        have hP : va_P D c2 (wX ad ca T n kc ko kv k lo hi bw bb (fS (hA q h i) h (q (h - 1)))) H := hP
        refine lv_iinc (k := 0) (v := nI (h - 1)) (lv' := [(8, .int (nI (h - 1))), (4, .int (nI i)), (5, .int (nI (q i))), (6, .long (T (q i) c)), (0, .ref (ad 0)), (1, .int (nI m0)), (2, .int (nI c)), (3, .int (bI d))]) E.1 E.2.1 dX0_sortPicked_83 hl rfl (dec1 (by omega)) (by decide) rfl (fun ls hl => ?_)
        refine lv_goto (tgt := 35) E.1 E.2.1 dX0_sortPicked_86 rfl ?_
        rw [hA_s q (by omega) (by omega)] at hP
        exact ih35 (h - 1) _ _ _ (⟨by omega, hm_s hm h64⟩) (by omega) ⟨hP, hS⟩ (lv_sub hl [0, 1, 2, 3, 4, 5, 6, 7] rfl)
set_option maxHeartbeats 4000000 in
set_option maxRecDepth 100000 in
theorem cX_startsGroup (l : Launch) (D : va_G) (ad : Nat → Nat) (ca : Nat → ClassId) (T : Nat → Nat → Int64) (n : Nat) (kc ko : Nat → Nat) (kv : Nat → Int64) (k : Nat) (lo hi : Nat → Int64) (bw bb pk : Nat → Nat) (i c m0 : Nat) (hc : c < 4) (hi0 : i < m0) (hm128 : m0 ≤ 128) (hpk : ∀ j, j < m0 → pk j < 128) : Met l yX0_startsGroup (wA yX0_startsGroup cX0_startsGroup 3 (some .boolean)) (rN 1) (va_Pc [.ref (ad 0), .int (nI i), .int (nI c)] (pW D c2 (tX ca) (wX ad ca T n kc ko kv k lo hi bw bb pk))) (vp_Si (fun z => z = bI (sg T c pk i))) 0 0 (fun _ => False) := by
  refine met_of RX0 rfl (by decide) (Nat.le_of_ble_eq_true rfl) (fun p e s m below meth cd ls E hr hlk _ hB hl => ?_)
  obtain ⟨hP, hK⟩ := hB
  have hl : lv_has ls 3 [(0, .ref (ad 0)), (1, .int (nI i)), (2, .int (nI c))] := hl
  refine lv_iload_n E.1 E.2.1 dX0_startsGroup_0 rfl (lv_at hl 1 rfl) ?_
  refine n_if_eq (tgt := 40) E dX0_startsGroup_1 rfl (by omega) (fun h1 => ?_) (fun h1 => ?_)
  · skip
    refine lv_iconst (v := nI 1) E.1 E.2.1 dX0_startsGroup_40 rfl ?_
    refine lv_goto (tgt := 45) E.1 E.2.1 dX0_startsGroup_41 rfl ?_
    exact e_z E hr hlk (show _ = _ from congrArg bI (show true = _ from by simp [sg, h1])) dX0_startsGroup_45
  · skip
    have hq1 := hpk i (by omega)
    have hq2 := hpk (i - 1) (by omega)
    refine lv_aload_n E.1 E.2.1 dX0_startsGroup_4 rfl (lv_at hl 0 rfl) ?_
    refine n_get E inX hK hP 0 rfl rfl 0 (by decide) flX_9 rfl rfl dX0_startsGroup_5 ?_
    refine lv_aload_n E.1 E.2.1 dX0_startsGroup_8 rfl (lv_at hl 0 rfl) ?_
    refine n_get E inX hK hP 0 rfl rfl 10 (by decide) flX_42 rfl rfl dX0_startsGroup_9 ?_
    refine lv_iload_n E.1 E.2.1 dX0_startsGroup_12 rfl (lv_at hl 1 rfl) ?_
    refine n_iald E hK hP 9 8 rfl rfl (by decide) (by omega) dX0_startsGroup_13 ?_
    refine lv_iload_n E.1 E.2.1 dX0_startsGroup_14 rfl (lv_at hl 2 rfl) ?_
    refine cS_i E (As := [.int (nI (pk i)), .int (nI c)]) (rest := [.ref (ad 1)]) (cX_spot l (pk i) c) kX_52 rfl rfl ⟨Nat.le_of_ble_eq_true rfl, Nat.le_of_ble_eq_true rfl⟩ rfl hl.1 rfl (Nat.le_of_ble_eq_true rfl) dX0_startsGroup_15 ⟨Nat.zero_le _, Nat.zero_le _⟩ ?_
    refine n_cald E hK hP 1 0 rfl rfl (pk i) c (by omega) (by omega) (by omega) dX0_startsGroup_18 ?_
    refine lv_aload_n E.1 E.2.1 dX0_startsGroup_19 rfl (lv_at hl 0 rfl) ?_
    refine n_get E inX hK hP 0 rfl rfl 0 (by decide) flX_9 rfl rfl dX0_startsGroup_20 ?_
    refine lv_aload_n E.1 E.2.1 dX0_startsGroup_23 rfl (lv_at hl 0 rfl) ?_
    refine n_get E inX hK hP 0 rfl rfl 10 (by decide) flX_42 rfl rfl dX0_startsGroup_24 ?_
    refine lv_iload_n E.1 E.2.1 dX0_startsGroup_27 rfl (lv_at hl 1 rfl) ?_
    refine lv_iconst (v := nI 1) E.1 E.2.1 dX0_startsGroup_28 rfl ?_
    refine n_isub E (by omega) dX0_startsGroup_29 ?_
    refine n_iald E hK hP 9 8 rfl rfl (by decide) (by omega) dX0_startsGroup_30 ?_
    refine lv_iload_n E.1 E.2.1 dX0_startsGroup_31 rfl (lv_at hl 2 rfl) ?_
    refine cS_i E (As := [.int (nI (pk (i - 1))), .int (nI c)]) (rest := [.ref (ad 1), .long (T (pk i) c)]) (cX_spot l (pk (i - 1)) c) kX_52 rfl rfl ⟨Nat.le_of_ble_eq_true rfl, Nat.le_of_ble_eq_true rfl⟩ rfl hl.1 rfl (Nat.le_of_ble_eq_true rfl) dX0_startsGroup_32 ⟨Nat.zero_le _, Nat.zero_le _⟩ ?_
    refine n_cald E hK hP 1 0 rfl rfl (pk (i - 1)) c (by omega) (by omega) (by omega) dX0_startsGroup_35 ?_
    refine l_if_eq (tgt := 44) E dX0_startsGroup_36 dX0_startsGroup_37 rfl (fun h36 => ?_) (fun h36 => ?_)
    · skip
      refine lv_iconst (v := nI 0) E.1 E.2.1 dX0_startsGroup_44 rfl ?_
      exact e_z E hr hlk (show _ = _ from congrArg bI (show false = _ from by simp [sg, h1, h36])) dX0_startsGroup_45
    · skip
      refine lv_iconst (v := nI 1) E.1 E.2.1 dX0_startsGroup_40 rfl ?_
      refine lv_goto (tgt := 45) E.1 E.2.1 dX0_startsGroup_41 rfl ?_
      exact e_z E hr hlk (show _ = _ from congrArg bI (show true = _ from by simp [sg, h1, h36])) dX0_startsGroup_45
set_option maxHeartbeats 4000000 in
set_option maxRecDepth 100000 in
theorem cX_groupStart (l : Launch) (D : va_G) (ad : Nat → Nat) (ca : Nat → ClassId) (T : Nat → Nat → Int64) (n : Nat) (kc ko : Nat → Nat) (kv : Nat → Int64) (k : Nat) (lo hi : Nat → Int64) (bw bb pk : Nat → Nat) (x : Int32) (c m0 : Nat) (hc : c < 4) (hm128 : m0 ≤ 128) (hpk : ∀ j, j < m0 → pk j < 128) : Met l yX0_groupStart (wA yX0_groupStart cX0_groupStart 6 (some .int)) (rN 2) (va_Pc [.ref (ad 0), .int x, .int (nI c), .int (nI m0)] (pW D c2 (tX ca) (wX ad ca T n kc ko kv k lo hi bw bb pk))) (vp_Si (fun z => z = gsF (sg T c pk) x 0 m0)) 0 0 (fun _ => False) := by
  refine met_of RX0 rfl (by decide) (Nat.le_of_ble_eq_true rfl) (fun p e s m below meth cd ls E hr hlk _ hB hl => ?_)
  obtain ⟨hP, hK⟩ := hB
  have hl : lv_has ls 6 [(0, .ref (ad 0)), (1, .int x), (2, .int (nI c)), (3, .int (nI m0))] := hl
  refine lv_iconst (v := nI 0) E.1 E.2.1 dX0_groupStart_0 rfl ?_
  refine lv_istore (lv' := [(4, .int (nI 0)), (0, .ref (ad 0)), (1, .int x), (2, .int (nI c)), (3, .int (nI m0))]) E.1 E.2.1 dX0_groupStart_1 hl (by decide) rfl (fun ls hl => ?_)
  refine lv_iconst (v := nI 0) E.1 E.2.1 dX0_groupStart_3 rfl ?_
  refine lv_istore (lv' := [(5, .int (nI 0)), (4, .int (nI 0)), (0, .ref (ad 0)), (1, .int x), (2, .int (nI c)), (3, .int (nI m0))]) E.1 E.2.1 dX0_groupStart_4 hl (by decide) rfl (fun ls hl => ?_)
  refine w_lp1 (fun (i : Nat) => i ≤ m0 ∧ gsF (sg T c pk) x 0 m0 = gsF (sg T c pk) x i (m0 - i)) (fun (i : Nat) => m0 - i) (fun (i : Nat) => [(5, .int (nI i)), (4, .int (nI (ct (sg T c pk) i))), (0, .ref (ad 0)), (1, .int x), (2, .int (nI c)), (3, .int (nI m0))]) 0 (⟨Nat.zero_le _, rfl⟩) (lv_sub hl [0, 1, 2, 3, 4, 5] rfl) (fun i ls hI hl ih6 => ?_)
  have hl : lv_has ls 6 [(5, .int (nI i)), (4, .int (nI (ct (sg T c pk) i))), (0, .ref (ad 0)), (1, .int x), (2, .int (nI c)), (3, .int (nI m0))] := hl
  obtain ⟨hi0, hgs⟩ := hI
  refine lv_iload E.1 E.2.1 dX0_groupStart_6 (lv_at hl 0 rfl) ?_
  refine lv_iload_n E.1 E.2.1 dX0_groupStart_8 rfl (lv_at hl 5 rfl) ?_
  refine n_icmp_ge (tgt := 40) E dX0_groupStart_9 rfl (by omega) (by omega) (fun h9 => ?_) (fun h9 => ?_)
  · skip
    refine lv_iconst (v := -1) E.1 E.2.1 dX0_groupStart_40 rfl ?_
    exact e_i E hr hlk (by rw [hgs, show m0 - i = 0 by omega]; rfl) dX0_groupStart_41
  · skip
    refine lv_aload_n E.1 E.2.1 dX0_groupStart_12 rfl (lv_at hl 2 rfl) ?_
    refine lv_iload E.1 E.2.1 dX0_groupStart_13 (lv_at hl 0 rfl) ?_
    refine lv_iload_n E.1 E.2.1 dX0_groupStart_15 rfl (lv_at hl 4 rfl) ?_
    refine cV_i E (As := [.int (nI i), .int (nI c)]) (rest := []) (cX_startsGroup l D ad ca T n kc ko kv k lo hi bw bb pk i c m0  (by omega) (by omega) (by omega) hpk) kX_105 hK hP 0 rfl rfl rfl rfl ⟨Nat.le_of_ble_eq_true rfl, Nat.le_of_ble_eq_true rfl⟩ rfl hl.1 rfl (Nat.le_of_ble_eq_true rfl) dX0_groupStart_16 ⟨Nat.zero_le _, Nat.zero_le _⟩ ?_
    refine b_if_eq (tgt := 34) E dX0_groupStart_19 rfl (fun h19 => ?_) (fun h19 => ?_)
    · skip
      refine lv_iinc (k := 0) (v := nI (i + 1)) (lv' := [(5, .int (nI (i + 1))), (4, .int (nI (ct (sg T c pk) i))), (0, .ref (ad 0)), (1, .int x), (2, .int (nI c)), (3, .int (nI m0))]) E.1 E.2.1 dX0_groupStart_34 hl rfl (inc1 _) (by decide) rfl (fun ls hl => ?_)
      refine lv_goto (tgt := 6) E.1 E.2.1 dX0_groupStart_37 rfl ?_
      rw [← ct_f h19] at hl
      have hgs2 : gsF (sg T c pk) x 0 m0 = gsF (sg T c pk) x (i + 1) (m0 - (i + 1)) := by rw [hgs, show m0 - i = (m0 - (i + 1)) + 1 by omega, gsF, if_neg (by rw [h19, Bool.false_and]; decide)]
      exact ih6 (i + 1) _ (⟨by omega, hgs2⟩) (by omega) (lv_sub hl [0, 1, 2, 3, 4, 5] rfl)
    · skip
      refine lv_iload E.1 E.2.1 dX0_groupStart_22 (lv_at hl 1 rfl) ?_
      refine lv_iload_n E.1 E.2.1 dX0_groupStart_24 rfl (lv_at hl 3 rfl) ?_
      refine lv_icmp_ne (tgt := 31) E.1 E.2.1 dX0_groupStart_25 rfl (fun h25 => ?_) (fun h25 => ?_)
      · skip
        refine lv_iinc (k := 1) (v := nI (ct (sg T c pk) i + 1)) (lv' := [(4, .int (nI (ct (sg T c pk) i + 1))), (5, .int (nI i)), (0, .ref (ad 0)), (1, .int x), (2, .int (nI c)), (3, .int (nI m0))]) E.1 E.2.1 dX0_groupStart_31 hl rfl (inc1 _) (by decide) rfl (fun ls hl => ?_)
        refine lv_iinc (k := 1) (v := nI (i + 1)) (lv' := [(5, .int (nI (i + 1))), (4, .int (nI (ct (sg T c pk) i + 1))), (0, .ref (ad 0)), (1, .int x), (2, .int (nI c)), (3, .int (nI m0))]) E.1 E.2.1 dX0_groupStart_34 hl rfl (inc1 _) (by decide) rfl (fun ls hl => ?_)
        refine lv_goto (tgt := 6) E.1 E.2.1 dX0_groupStart_37 rfl ?_
        rw [← ct_t h19] at hl
        have hgs2 : gsF (sg T c pk) x 0 m0 = gsF (sg T c pk) x (i + 1) (m0 - (i + 1)) := by rw [hgs, show m0 - i = (m0 - (i + 1)) + 1 by omega, gsF, if_neg (by rw [decide_eq_false h25, Bool.and_false]; decide)]
        exact ih6 (i + 1) _ (⟨by omega, hgs2⟩) (by omega) (lv_sub hl [0, 1, 2, 3, 4, 5] rfl)
      · skip
        refine lv_iload E.1 E.2.1 dX0_groupStart_28 (lv_at hl 0 rfl) ?_
        exact e_i E hr hlk (by rw [hgs, show m0 - i = (m0 - (i + 1)) + 1 by omega, gsF, if_pos (by rw [h19, decide_eq_true h25]; rfl)]) dX0_groupStart_30
set_option maxHeartbeats 4000000 in
set_option maxRecDepth 100000 in
theorem cX_groupEnd (l : Launch) (D : va_G) (ad : Nat → Nat) (ca : Nat → ClassId) (T : Nat → Nat → Int64) (n : Nat) (kc ko : Nat → Nat) (kv : Nat → Int64) (k : Nat) (lo hi : Nat → Int64) (bw bb pk : Nat → Nat) (a c m0 : Nat) (hc : c < 4) (ha0 : a < m0) (hm128 : m0 ≤ 128) (hpk : ∀ j, j < m0 → pk j < 128) : Met l yX0_groupEnd (wA yX0_groupEnd cX0_groupEnd 5 (some .int)) (rN 2) (va_Pc [.ref (ad 0), .int (nI a), .int (nI c), .int (nI m0)] (pW D c2 (tX ca) (wX ad ca T n kc ko kv k lo hi bw bb pk))) (vp_Si (fun z => z = nI (gE (sg T c pk) (a + 1) (m0 - (a + 1))))) 0 0 (fun _ => False) := by
  refine met_of RX0 rfl (by decide) (Nat.le_of_ble_eq_true rfl) (fun p e s m below meth cd ls E hr hlk _ hB hl => ?_)
  obtain ⟨hP, hK⟩ := hB
  have hl : lv_has ls 5 [(0, .ref (ad 0)), (1, .int (nI a)), (2, .int (nI c)), (3, .int (nI m0))] := hl
  refine lv_iload_n E.1 E.2.1 dX0_groupEnd_0 rfl (lv_at hl 1 rfl) ?_
  refine lv_iconst (v := nI 1) E.1 E.2.1 dX0_groupEnd_1 rfl ?_
  refine n_iadd E dX0_groupEnd_2 ?_
  refine lv_istore (lv' := [(4, .int (nI (a + 1))), (0, .ref (ad 0)), (1, .int (nI a)), (2, .int (nI c)), (3, .int (nI m0))]) E.1 E.2.1 dX0_groupEnd_3 hl (by decide) rfl (fun ls hl => ?_)
  refine w_lp1 (fun (i : Nat) => a < i ∧ i ≤ m0 ∧ gE (sg T c pk) (a + 1) (m0 - (a + 1)) = gE (sg T c pk) i (m0 - i)) (fun (i : Nat) => m0 - i) (fun (i : Nat) => [(4, .int (nI i)), (0, .ref (ad 0)), (1, .int (nI a)), (2, .int (nI c)), (3, .int (nI m0))]) (a + 1) (⟨by omega, by omega, rfl⟩) (lv_sub hl [0, 1, 2, 3, 4] rfl) (fun i ls hI hl ih5 => ?_)
  have hl : lv_has ls 5 [(4, .int (nI i)), (0, .ref (ad 0)), (1, .int (nI a)), (2, .int (nI c)), (3, .int (nI m0))] := hl
  obtain ⟨hi1, hi0, hgs⟩ := hI
  refine lv_iload E.1 E.2.1 dX0_groupEnd_5 (lv_at hl 0 rfl) ?_
  refine lv_iload_n E.1 E.2.1 dX0_groupEnd_7 rfl (lv_at hl 4 rfl) ?_
  refine n_icmp_ge (tgt := 30) E dX0_groupEnd_8 rfl (by omega) (by omega) (fun h8 => ?_) (fun h8 => ?_)
  · skip
    refine lv_iload_n E.1 E.2.1 dX0_groupEnd_30 rfl (lv_at hl 4 rfl) ?_
    exact e_i E hr hlk (by rw [hgs, show m0 - i = 0 by omega, gE, show m0 = i by omega]) dX0_groupEnd_31
  · skip
    refine lv_aload_n E.1 E.2.1 dX0_groupEnd_11 rfl (lv_at hl 1 rfl) ?_
    refine lv_iload E.1 E.2.1 dX0_groupEnd_12 (lv_at hl 0 rfl) ?_
    refine lv_iload_n E.1 E.2.1 dX0_groupEnd_14 rfl (lv_at hl 3 rfl) ?_
    refine cV_i E (As := [.int (nI i), .int (nI c)]) (rest := []) (cX_startsGroup l D ad ca T n kc ko kv k lo hi bw bb pk i c m0  (by omega) (by omega) (by omega) hpk) kX_105 hK hP 0 rfl rfl rfl rfl ⟨Nat.le_of_ble_eq_true rfl, Nat.le_of_ble_eq_true rfl⟩ rfl hl.1 rfl (Nat.le_of_ble_eq_true rfl) dX0_groupEnd_15 ⟨Nat.zero_le _, Nat.zero_le _⟩ ?_
    refine b_if_eq (tgt := 24) E dX0_groupEnd_18 rfl (fun h18 => ?_) (fun h18 => ?_)
    · skip
      refine lv_iinc (k := 0) (v := nI (i + 1)) (lv' := [(4, .int (nI (i + 1))), (0, .ref (ad 0)), (1, .int (nI a)), (2, .int (nI c)), (3, .int (nI m0))]) E.1 E.2.1 dX0_groupEnd_24 hl rfl (inc1 _) (by decide) rfl (fun ls hl => ?_)
      refine lv_goto (tgt := 5) E.1 E.2.1 dX0_groupEnd_27 rfl ?_
      have hgs2 : gE (sg T c pk) (a + 1) (m0 - (a + 1)) = gE (sg T c pk) (i + 1) (m0 - (i + 1)) := by rw [hgs, show m0 - i = (m0 - (i + 1)) + 1 by omega, gE, if_neg (by rw [h18]; decide)]
      exact ih5 (i + 1) _ (⟨by omega, by omega, hgs2⟩) (by omega) (lv_sub hl [0, 1, 2, 3, 4] rfl)
    · skip
      refine lv_iload E.1 E.2.1 dX0_groupEnd_21 (lv_at hl 0 rfl) ?_
      exact e_i E hr hlk (by rw [hgs, show m0 - i = (m0 - (i + 1)) + 1 by omega, gE, if_pos h18]) dX0_groupEnd_23
end
section
/-! Contracts of the hall: laid by program (wip/whole/gen.py). -/
set_option maxHeartbeats 4000000 in
set_option maxRecDepth 100000 in
theorem cX_cell (l : Launch) (D : va_G) (ad : Nat → Nat) (ca : Nat → ClassId) (T : Nat → Nat → Int64) (n : Nat) (kc ko : Nat → Nat) (kv : Nat → Int64) (k : Nat) (lo hi : Nat → Int64) (bw bb pk : Nat → Nat) (r c : Nat) (hn128 : n ≤ 128) (hr0 : r < n) (hc : c < 4) : Met l yX0_cell (wA yX0_cell cX0_cell 3 (some .long)) (rN 1) (va_Pc [.ref (ad 0), .int (nI r), .int (nI c)] (pW D c2 (tX ca) (wX ad ca T n kc ko kv k lo hi bw bb pk))) (vp_Sl (fun z => z = T r c)) 0 0 (fun _ => False) := by
  refine met_of RX0 rfl (by decide) (Nat.le_of_ble_eq_true rfl) (fun p e s m below meth cd ls E hr hlk _ hB hl => ?_)
  obtain ⟨hP, hK⟩ := hB
  have hl : lv_has ls 3 [(0, .ref (ad 0)), (1, .int (nI r)), (2, .int (nI c))] := hl
  refine lv_iload_n E.1 E.2.1 dX0_cell_0 rfl (lv_at hl 2 rfl) ?_
  refine cS_v E (As := [.int (nI c)]) (rest := []) (cX_refuseBadColumn l c (by omega)) kX_60 rfl rfl ⟨Nat.le_of_ble_eq_true rfl, Nat.le_of_ble_eq_true rfl⟩ rfl hl.1 rfl (Nat.le_of_ble_eq_true rfl) dX0_cell_1 ⟨Nat.zero_le _, Nat.zero_le _⟩ ?_
  refine lv_iload_n E.1 E.2.1 dX0_cell_4 rfl (lv_at hl 1 rfl) ?_
  refine n_if_lt (tgt := 16) E dX0_cell_5 rfl (by omega) ?_
  refine lv_iload_n E.1 E.2.1 dX0_cell_8 rfl (lv_at hl 1 rfl) ?_
  refine lv_aload_n E.1 E.2.1 dX0_cell_9 rfl (lv_at hl 0 rfl) ?_
  refine n_get E inX hK hP 0 rfl rfl 1 (by decide) flX_13 rfl rfl dX0_cell_10 ?_
  refine n_icmp_lt (tgt := 26) E dX0_cell_13 rfl (by omega) (by omega) (fun h13 => ?_) (fun h13 => ?_)
  · skip
    refine lv_aload_n E.1 E.2.1 dX0_cell_26 rfl (lv_at hl 0 rfl) ?_
    refine n_get E inX hK hP 0 rfl rfl 0 (by decide) flX_9 rfl rfl dX0_cell_27 ?_
    refine lv_iload_n E.1 E.2.1 dX0_cell_30 rfl (lv_at hl 1 rfl) ?_
    refine lv_iload_n E.1 E.2.1 dX0_cell_31 rfl (lv_at hl 2 rfl) ?_
    refine cS_i E (As := [.int (nI r), .int (nI c)]) (rest := [.ref (ad 1)]) (cX_spot l r c) kX_52 rfl rfl ⟨Nat.le_of_ble_eq_true rfl, Nat.le_of_ble_eq_true rfl⟩ rfl hl.1 rfl (Nat.le_of_ble_eq_true rfl) dX0_cell_32 ⟨Nat.zero_le _, Nat.zero_le _⟩ ?_
    refine n_cald E hK hP 1 0 rfl rfl r c (by omega) (by omega) (by omega) dX0_cell_35 ?_
    exact e_l E hr hlk rfl dX0_cell_36
  · skip
    exfalso; omega
set_option maxHeartbeats 4000000 in
set_option maxRecDepth 100000 in
theorem cX_where (l : Launch) (D : va_G) (ad : Nat → Nat) (ca : Nat → ClassId) (T : Nat → Nat → Int64) (n : Nat) (kc ko : Nat → Nat) (kv : Nat → Int64) (k : Nat) (lo hi : Nat → Int64) (bw bb pk : Nat → Nat) (c o : Nat) (v : Int64) (hN : inj ad 10) (hk : k < 3) (hc : c < 4) (ho : o < 6) : Met l yX0_where (wA yX0_where cX0_where 5 (some .int)) (rN 1) (va_Pc [.ref (ad 0), .int (nI c), .int (nI o), .long v] (pW D c2 (tX ca) (wX ad ca T n kc ko kv k lo hi bw bb pk))) (qI (fun z (_ : Unit) => z = nI (k + 1)) D c2 (fun _ => wX ad ca T n (fS kc k c) (fS ko k o) (fS kv k v) (k + 1) lo hi bw bb pk) (fA ad 10)) 0 0 (fA ad 10) := by
  refine met_of RX0 rfl (by decide) (Nat.le_of_ble_eq_true rfl) (fun p e s m below meth cd ls E hr hlk _ hB hl => ?_)
  obtain ⟨hP, hK⟩ := hB
  have hl : lv_has ls 5 [(0, .ref (ad 0)), (1, .int (nI c)), (2, .int (nI o)), (3, .long v)] := hl
  have hS : va_S (fA ad 10) s.heap s.heap [] := va_S.rf
  refine lv_iload_n E.1 E.2.1 dX0_where_0 rfl (lv_at hl 1 rfl) ?_
  refine cS_v E (As := [.int (nI c)]) (rest := []) (cX_refuseBadColumn l c (by omega)) kX_60 rfl rfl ⟨Nat.le_of_ble_eq_true rfl, Nat.le_of_ble_eq_true rfl⟩ rfl hl.1 rfl (Nat.le_of_ble_eq_true rfl) dX0_where_1 ⟨Nat.zero_le _, Nat.zero_le _⟩ ?_
  refine lv_iload_n E.1 E.2.1 dX0_where_4 rfl (lv_at hl 2 rfl) ?_
  refine n_if_lt (tgt := 13) E dX0_where_5 rfl (by omega) ?_
  refine lv_iload_n E.1 E.2.1 dX0_where_8 rfl (lv_at hl 2 rfl) ?_
  refine lv_iconst (v := nI 5) E.1 E.2.1 dX0_where_9 rfl ?_
  refine n_icmp_le (tgt := 23) E dX0_where_10 rfl (by omega) (by omega) (fun h10 => ?_) (fun h10 => ?_)
  · skip
    refine lv_aload_n E.1 E.2.1 dX0_where_23 rfl (lv_at hl 0 rfl) ?_
    refine n_get E inX hK hP 0 rfl rfl 5 (by decide) flX_27 rfl rfl dX0_where_24 ?_
    refine lv_iconst (v := nI 3) E.1 E.2.1 dX0_where_27 rfl ?_
    refine n_icmp_lt (tgt := 41) E dX0_where_28 rfl (by omega) (by omega) (fun h28 => ?_) (fun h28 => ?_)
    · skip
      refine lv_aload_n E.1 E.2.1 dX0_where_41 rfl (lv_at hl 0 rfl) ?_
      refine n_get E inX hK hP 0 rfl rfl 2 (by decide) flX_17 rfl rfl dX0_where_42 ?_
      refine lv_aload_n E.1 E.2.1 dX0_where_45 rfl (lv_at hl 0 rfl) ?_
      refine n_get E inX hK hP 0 rfl rfl 5 (by decide) flX_27 rfl rfl dX0_where_46 ?_
      refine lv_iload_n E.1 E.2.1 dX0_where_49 rfl (lv_at hl 1 rfl) ?_
      refine n_iast E hK hP (dW hN rfl) hS 2 1 rfl rfl (by decide) (by omega) dX0_where_50 (fun H locs hP hS => ?_)
      have hP : va_P D c2 (wX ad ca T n (fS kc k c) ko kv k lo hi bw bb pk) H := hP
      refine lv_aload_n E.1 E.2.1 dX0_where_51 rfl (lv_at hl 0 rfl) ?_
      refine n_get E inX hK hP 0 rfl rfl 3 (by decide) flX_21 rfl rfl dX0_where_52 ?_
      refine lv_aload_n E.1 E.2.1 dX0_where_55 rfl (lv_at hl 0 rfl) ?_
      refine n_get E inX hK hP 0 rfl rfl 5 (by decide) flX_27 rfl rfl dX0_where_56 ?_
      refine lv_iload_n E.1 E.2.1 dX0_where_59 rfl (lv_at hl 2 rfl) ?_
      refine n_iast E hK hP (dW hN rfl) hS 3 2 rfl rfl (by decide) (by omega) dX0_where_60 (fun H locs hP hS => ?_)
      have hP : va_P D c2 (wX ad ca T n (fS kc k c) (fS ko k o) kv k lo hi bw bb pk) H := hP
      refine lv_aload_n E.1 E.2.1 dX0_where_61 rfl (lv_at hl 0 rfl) ?_
      refine n_get E inX hK hP 0 rfl rfl 4 (by decide) flX_24 rfl rfl dX0_where_62 ?_
      refine lv_aload_n E.1 E.2.1 dX0_where_65 rfl (lv_at hl 0 rfl) ?_
      refine n_get E inX hK hP 0 rfl rfl 5 (by decide) flX_27 rfl rfl dX0_where_66 ?_
      refine lv_lload_n E.1 E.2.1 dX0_where_69 rfl (lv_at hl 3 rfl) ?_
      refine n_last E hK hP (dW hN rfl) hS 4 3 rfl rfl (by decide) (by omega) dX0_where_70 (fun H locs hP hS => ?_)
      have hP : va_P D c2 (wX ad ca T n (fS kc k c) (fS ko k o) (fS kv k v) k lo hi bw bb pk) H := hP
      refine lv_aload_n E.1 E.2.1 dX0_where_71 rfl (lv_at hl 0 rfl) ?_
      refine lv_dup E.1 E.2.1 dX0_where_72 rfl ?_
      refine n_get E inX hK hP 0 rfl rfl 5 (by decide) flX_27 rfl rfl dX0_where_73 ?_
      refine lv_iconst (v := nI 1) E.1 E.2.1 dX0_where_76 rfl ?_
      refine n_iadd E dX0_where_77 ?_
      refine n_put E inX tyX0 tyX0_ok nmX0 hK hP (dW hN rfl) hS 0 rfl rfl 5 (by decide) flX_27 rfl rfl (tyX0_ok 5 (by decide)) (Nat.le_of_ble_eq_true rfl) dX0_where_78 (fun H locs hP hS => ?_)
      have hP : va_P D c2 (wX ad ca T n (fS kc k c) (fS ko k o) (fS kv k v) (k + 1) lo hi bw bb pk) H := hP
      refine lv_aload_n E.1 E.2.1 dX0_where_81 rfl (lv_at hl 0 rfl) ?_
      refine n_get E inX hK hP 0 rfl rfl 5 (by decide) flX_27 rfl rfl dX0_where_82 ?_
      exact e_wi E hr hlk hS () rfl hP dX0_where_85
    · skip
      exfalso; omega
  · skip
    exfalso; omega
set_option maxHeartbeats 4000000 in
set_option maxRecDepth 100000 in
theorem cX_row (l : Launch) (D : va_G) (ad : Nat → Nat) (ca : Nat → ClassId) (T : Nat → Nat → Int64) (n : Nat) (kc ko : Nat → Nat) (kv : Nat → Int64) (k : Nat) (lo hi : Nat → Int64) (bw bb pk : Nat → Nat) (i : Nat) (hIK : iK kc ko k) (hN : inj ad 10) (hn128 : n ≤ 128) (hiB : iB T n lo hi) (hi0 : i < ct (ch T kc ko kv k) n) : Met l yX0_row (wA yX0_row cX0_row 3 (some .int)) (rN 4) (va_Pc [.ref (ad 0), .int (nI i)] (pW D c2 (tX ca) (wX ad ca T n kc ko kv k lo hi bw bb pk))) (qI (fun z (q : Nat → Nat) => z = nI (q i) ∧ En q (ch T kc ko kv k) n) D c2 (fun q => wX ad ca T n kc ko kv k lo hi bw bb q) (fA ad 10)) 0 0 (fA ad 10) := by
  refine met_of RX0 rfl (by decide) (Nat.le_of_ble_eq_true rfl) (fun p e s m below meth cd ls E hr hlk _ hB hl => ?_)
  obtain ⟨hP, hK⟩ := hB
  have hl : lv_has ls 3 [(0, .ref (ad 0)), (1, .int (nI i))] := hl
  have hS : va_S (fA ad 10) s.heap s.heap [] := va_S.rf
  refine lv_aload_n E.1 E.2.1 dX0_row_0 rfl (lv_at hl 0 rfl) ?_
  refine cV_wi E (As := []) (rest := []) (cX_pick l D ad ca T n kc ko kv k lo hi bw bb pk hIK hN hn128 hiB) kX_75 hK hP hS (fun _ h => h) 0 rfl rfl rfl rfl ⟨Nat.le_of_ble_eq_true rfl, Nat.le_of_ble_eq_true rfl⟩ rfl hl.1 rfl (Nat.le_of_ble_eq_true rfl) dX0_row_1 ⟨Nat.zero_le _, Nat.zero_le _⟩ (fun z1 u1 H locs hp1 hP _ _ hS => ?_)
  obtain ⟨hz1, hE1⟩ := hp1
  subst hz1
  have hP : va_P D c2 (wX ad ca T n kc ko kv k lo hi bw bb u1) H := hP
  have hct := ct_le (ch T kc ko kv k) n
  refine lv_istore_n (lv' := [(2, .int (nI (ct (ch T kc ko kv k) n))), (0, .ref (ad 0)), (1, .int (nI i))]) E.1 E.2.1 dX0_row_4 rfl hl (by decide) rfl (fun ls hl => ?_)
  refine lv_iload_n E.1 E.2.1 dX0_row_5 rfl (lv_at hl 2 rfl) ?_
  refine n_if_lt (tgt := 14) E dX0_row_6 rfl (by omega) ?_
  refine lv_iload_n E.1 E.2.1 dX0_row_9 rfl (lv_at hl 2 rfl) ?_
  refine lv_iload_n E.1 E.2.1 dX0_row_10 rfl (lv_at hl 0 rfl) ?_
  refine n_icmp_lt (tgt := 24) E dX0_row_11 rfl (by omega) (by omega) (fun h11 => ?_) (fun h11 => ?_)
  · skip
    refine lv_aload_n E.1 E.2.1 dX0_row_24 rfl (lv_at hl 1 rfl) ?_
    refine n_get E inX hK hP 0 rfl rfl 10 (by decide) flX_42 rfl rfl dX0_row_25 ?_
    refine lv_iload_n E.1 E.2.1 dX0_row_28 rfl (lv_at hl 2 rfl) ?_
    refine n_iald E hK hP 9 8 rfl rfl (by decide) (by omega) dX0_row_29 ?_
    exact e_wi E hr hlk hS u1 (⟨rfl, hE1⟩) hP dX0_row_30
  · skip
    exfalso; omega
set_option maxHeartbeats 4000000 in
set_option maxRecDepth 100000 in
theorem cX_sum (l : Launch) (D : va_G) (ad : Nat → Nat) (ca : Nat → ClassId) (T : Nat → Nat → Int64) (n : Nat) (kc ko : Nat → Nat) (kv : Nat → Int64) (k : Nat) (lo hi : Nat → Int64) (bw bb pk : Nat → Nat) (c : Nat) (hIK : iK kc ko k) (hN : inj ad 10) (hn128 : n ≤ 128) (hiB : iB T n lo hi) (hc : c < 4) : Met l yX0_sum (wA yX0_sum cX0_sum 3 (some .long)) (rN 4) (va_Pc [.ref (ad 0), .int (nI c)] (pW D c2 (tX ca) (wX ad ca T n kc ko kv k lo hi bw bb pk))) (qL (fun z (q : Nat → Nat) => z = sm (fun j => T (q j) c) (ct (ch T kc ko kv k) n) ∧ En q (ch T kc ko kv k) n) D c2 (fun q => wX ad ca T n kc ko kv k lo hi bw bb q) (fA ad 10)) 0 0 (fA ad 10) := by
  refine met_of RX0 rfl (by decide) (Nat.le_of_ble_eq_true rfl) (fun p e s m below meth cd ls E hr hlk _ hB hl => ?_)
  obtain ⟨hP, hK⟩ := hB
  have hl : lv_has ls 3 [(0, .ref (ad 0)), (1, .int (nI c))] := hl
  have hS : va_S (fA ad 10) s.heap s.heap [] := va_S.rf
  refine lv_iload_n E.1 E.2.1 dX0_sum_0 rfl (lv_at hl 1 rfl) ?_
  refine cS_v E (As := [.int (nI c)]) (rest := []) (cX_refuseBadColumn l c (by omega)) kX_60 rfl rfl ⟨Nat.le_of_ble_eq_true rfl, Nat.le_of_ble_eq_true rfl⟩ rfl hl.1 rfl (Nat.le_of_ble_eq_true rfl) dX0_sum_1 ⟨Nat.zero_le _, Nat.zero_le _⟩ ?_
  refine lv_aload_n E.1 E.2.1 dX0_sum_4 rfl (lv_at hl 0 rfl) ?_
  refine cV_wi E (As := []) (rest := []) (cX_pick l D ad ca T n kc ko kv k lo hi bw bb pk hIK hN hn128 hiB) kX_75 hK hP hS (fun _ h => h) 0 rfl rfl rfl rfl ⟨Nat.le_of_ble_eq_true rfl, Nat.le_of_ble_eq_true rfl⟩ rfl hl.1 rfl (Nat.le_of_ble_eq_true rfl) dX0_sum_5 ⟨Nat.zero_le _, Nat.zero_le _⟩ (fun z5 u5 H locs hp5 hP _ _ hS => ?_)
  obtain ⟨hz5, hE5⟩ := hp5
  subst hz5
  have hP : va_P D c2 (wX ad ca T n kc ko kv k lo hi bw bb u5) H := hP
  have hct := ct_le (ch T kc ko kv k) n
  have hpk5 : ∀ j, j < ct (ch T kc ko kv k) n → u5 j < 128 := fun j hj => Nat.lt_of_lt_of_le (en_inv hE5 j hj).1 hn128
  refine lv_istore_n (lv' := [(2, .int (nI (ct (ch T kc ko kv k) n))), (0, .ref (ad 0)), (1, .int (nI c))]) E.1 E.2.1 dX0_sum_8 rfl hl (by decide) rfl (fun ls hl => ?_)
  refine lv_aload_n E.1 E.2.1 dX0_sum_9 rfl (lv_at hl 1 rfl) ?_
  refine lv_iload_n E.1 E.2.1 dX0_sum_10 rfl (lv_at hl 2 rfl) ?_
  refine lv_iconst (v := nI 0) E.1 E.2.1 dX0_sum_11 rfl ?_
  refine lv_iload_n E.1 E.2.1 dX0_sum_12 rfl (lv_at hl 0 rfl) ?_
  refine cV_l E (As := [.int (nI c), .int (nI 0), .int (nI (ct (ch T kc ko kv k) n))]) (rest := []) (cX_sumOfPicked l D ad ca T n kc ko kv k lo hi bw bb u5 c 0 (ct (ch T kc ko kv k) n) (by omega) (by omega) (by omega) hpk5) kX_88 hK hP 0 rfl rfl rfl rfl ⟨Nat.le_of_ble_eq_true rfl, Nat.le_of_ble_eq_true rfl⟩ rfl hl.1 rfl (Nat.le_of_ble_eq_true rfl) dX0_sum_13 ⟨Nat.zero_le _, Nat.zero_le _⟩ ?_
  exact e_wl E hr hlk hS u5 (⟨by simp only [Nat.zero_add, Nat.sub_zero], hE5⟩) hP dX0_sum_16
set_option maxHeartbeats 4000000 in
set_option maxRecDepth 100000 in
theorem cX_bound (l : Launch) (D : va_G) (ad : Nat → Nat) (ca : Nat → ClassId) (T : Nat → Nat → Int64) (n : Nat) (kc ko : Nat → Nat) (kv : Nat → Int64) (k : Nat) (lo hi : Nat → Int64) (bw bb pk : Nat → Nat) (c : Nat) (d : Bool) (hIK : iK kc ko k) (hN : inj ad 10) (hn128 : n ≤ 128) (hiB : iB T n lo hi) (hc : c < 4) (hpos : 0 < ct (ch T kc ko kv k) n) : Met l yX0_bound (wA yX0_bound cX0_bound 4 (some .long)) (rN 4) (va_Pc [.ref (ad 0), .int (nI c), .int (bI d)] (pW D c2 (tX ca) (wX ad ca T n kc ko kv k lo hi bw bb pk))) (qL (fun z (q : Nat → Nat) => z = bnd (fun j => T (q j) c) d (ct (ch T kc ko kv k) n - 1) ∧ En q (ch T kc ko kv k) n) D c2 (fun q => wX ad ca T n kc ko kv k lo hi bw bb q) (fA ad 10)) 0 0 (fA ad 10) := by
  refine met_of RX0 rfl (by decide) (Nat.le_of_ble_eq_true rfl) (fun p e s m below meth cd ls E hr hlk _ hB hl => ?_)
  obtain ⟨hP, hK⟩ := hB
  have hl : lv_has ls 4 [(0, .ref (ad 0)), (1, .int (nI c)), (2, .int (bI d))] := hl
  have hS : va_S (fA ad 10) s.heap s.heap [] := va_S.rf
  refine lv_iload_n E.1 E.2.1 dX0_bound_0 rfl (lv_at hl 1 rfl) ?_
  refine cS_v E (As := [.int (nI c)]) (rest := []) (cX_refuseBadColumn l c (by omega)) kX_60 rfl rfl ⟨Nat.le_of_ble_eq_true rfl, Nat.le_of_ble_eq_true rfl⟩ rfl hl.1 rfl (Nat.le_of_ble_eq_true rfl) dX0_bound_1 ⟨Nat.zero_le _, Nat.zero_le _⟩ ?_
  refine lv_aload_n E.1 E.2.1 dX0_bound_4 rfl (lv_at hl 0 rfl) ?_
  refine cV_wi E (As := []) (rest := []) (cX_pick l D ad ca T n kc ko kv k lo hi bw bb pk hIK hN hn128 hiB) kX_75 hK hP hS (fun _ h => h) 0 rfl rfl rfl rfl ⟨Nat.le_of_ble_eq_true rfl, Nat.le_of_ble_eq_true rfl⟩ rfl hl.1 rfl (Nat.le_of_ble_eq_true rfl) dX0_bound_5 ⟨Nat.zero_le _, Nat.zero_le _⟩ (fun z5 u5 H locs hp5 hP _ _ hS => ?_)
  obtain ⟨hz5, hE5⟩ := hp5
  subst hz5
  have hP : va_P D c2 (wX ad ca T n kc ko kv k lo hi bw bb u5) H := hP
  have hct := ct_le (ch T kc ko kv k) n
  have hpk5 : ∀ j, j < ct (ch T kc ko kv k) n → u5 j < 128 := fun j hj => Nat.lt_of_lt_of_le (en_inv hE5 j hj).1 hn128
  refine lv_istore_n (lv' := [(3, .int (nI (ct (ch T kc ko kv k) n))), (0, .ref (ad 0)), (1, .int (nI c)), (2, .int (bI d))]) E.1 E.2.1 dX0_bound_8 rfl hl (by decide) rfl (fun ls hl => ?_)
  refine lv_iload_n E.1 E.2.1 dX0_bound_9 rfl (lv_at hl 0 rfl) ?_
  refine n_if_ne (tgt := 23) E dX0_bound_10 rfl (by omega) (fun h10 => ?_) (fun h10 => ?_)
  · skip
    refine lv_aload_n E.1 E.2.1 dX0_bound_23 rfl (lv_at hl 1 rfl) ?_
    refine lv_iload_n E.1 E.2.1 dX0_bound_24 rfl (lv_at hl 2 rfl) ?_
    refine lv_iload_n E.1 E.2.1 dX0_bound_25 rfl (lv_at hl 3 rfl) ?_
    refine lv_iconst (v := nI 0) E.1 E.2.1 dX0_bound_26 rfl ?_
    refine lv_iload_n E.1 E.2.1 dX0_bound_27 rfl (lv_at hl 0 rfl) ?_
    refine cV_l E (As := [.int (nI c), .int (bI d), .int (nI 0), .int (nI (ct (ch T kc ko kv k) n))]) (rest := []) (cX_boundOfPicked l D ad ca T n kc ko kv k lo hi bw bb u5 c d 0 (ct (ch T kc ko kv k) n) (by omega) (by omega) (by omega) hpk5) kX_97 hK hP 0 rfl rfl rfl rfl ⟨Nat.le_of_ble_eq_true rfl, Nat.le_of_ble_eq_true rfl⟩ rfl hl.1 rfl (Nat.le_of_ble_eq_true rfl) dX0_bound_28 ⟨Nat.zero_le _, Nat.zero_le _⟩ ?_
    exact e_wl E hr hlk hS u5 (⟨by simp only [Nat.zero_add, Nat.sub_zero], hE5⟩) hP dX0_bound_31
  · skip
    exfalso; omega
set_option maxHeartbeats 4000000 in
set_option maxRecDepth 100000 in
theorem cX_ranked (l : Launch) (D : va_G) (ad : Nat → Nat) (ca : Nat → ClassId) (T : Nat → Nat → Int64) (n : Nat) (kc ko : Nat → Nat) (kv : Nat → Int64) (k : Nat) (lo hi : Nat → Int64) (bw bb pk : Nat → Nat) (c i : Nat) (hIK : iK kc ko k) (hN : inj ad 10) (hn128 : n ≤ 128) (hiB : iB T n lo hi) (hc : c < 4) (hi0 : i < ct (ch T kc ko kv k) n) : Met l yX0_ranked (wA yX0_ranked cX0_ranked 4 (some .int)) (rN 4) (va_Pc [.ref (ad 0), .int (nI c), .int (nI i)] (pW D c2 (tX ca) (wX ad ca T n kc ko kv k lo hi bw bb pk))) (qI (fun z (q : Nat → Nat) => z = nI (q i) ∧ Sd T c true q (ct (ch T kc ko kv k) n) ∧ (∃ p, En p (ch T kc ko kv k) n ∧ Pm q p (ct (ch T kc ko kv k) n))) D c2 (fun q => wX ad ca T n kc ko kv k lo hi bw bb q) (fA ad 10)) 0 0 (fA ad 10) := by
  refine met_of RX0 rfl (by decide) (Nat.le_of_ble_eq_true rfl) (fun p e s m below meth cd ls E hr hlk _ hB hl => ?_)
  obtain ⟨hP, hK⟩ := hB
  have hl : lv_has ls 4 [(0, .ref (ad 0)), (1, .int (nI c)), (2, .int (nI i))] := hl
  have hS : va_S (fA ad 10) s.heap s.heap [] := va_S.rf
  refine lv_iload_n E.1 E.2.1 dX0_ranked_0 rfl (lv_at hl 1 rfl) ?_
  refine cS_v E (As := [.int (nI c)]) (rest := []) (cX_refuseBadColumn l c (by omega)) kX_60 rfl rfl ⟨Nat.le_of_ble_eq_true rfl, Nat.le_of_ble_eq_true rfl⟩ rfl hl.1 rfl (Nat.le_of_ble_eq_true rfl) dX0_ranked_1 ⟨Nat.zero_le _, Nat.zero_le _⟩ ?_
  refine lv_aload_n E.1 E.2.1 dX0_ranked_4 rfl (lv_at hl 0 rfl) ?_
  refine cV_wi E (As := []) (rest := []) (cX_pick l D ad ca T n kc ko kv k lo hi bw bb pk hIK hN hn128 hiB) kX_75 hK hP hS (fun _ h => h) 0 rfl rfl rfl rfl ⟨Nat.le_of_ble_eq_true rfl, Nat.le_of_ble_eq_true rfl⟩ rfl hl.1 rfl (Nat.le_of_ble_eq_true rfl) dX0_ranked_5 ⟨Nat.zero_le _, Nat.zero_le _⟩ (fun z5 u5 H locs hp5 hP _ _ hS => ?_)
  obtain ⟨hz5, hE5⟩ := hp5
  subst hz5
  have hP : va_P D c2 (wX ad ca T n kc ko kv k lo hi bw bb u5) H := hP
  have hct := ct_le (ch T kc ko kv k) n
  have hpk5 : ∀ j, j < ct (ch T kc ko kv k) n → u5 j < 128 := fun j hj => Nat.lt_of_lt_of_le (en_inv hE5 j hj).1 hn128
  refine lv_istore_n (lv' := [(3, .int (nI (ct (ch T kc ko kv k) n))), (0, .ref (ad 0)), (1, .int (nI c)), (2, .int (nI i))]) E.1 E.2.1 dX0_ranked_8 rfl hl (by decide) rfl (fun ls hl => ?_)
  refine lv_iload_n E.1 E.2.1 dX0_ranked_9 rfl (lv_at hl 3 rfl) ?_
  refine n_if_lt (tgt := 18) E dX0_ranked_10 rfl (by omega) ?_
  refine lv_iload_n E.1 E.2.1 dX0_ranked_13 rfl (lv_at hl 3 rfl) ?_
  refine lv_iload_n E.1 E.2.1 dX0_ranked_14 rfl (lv_at hl 0 rfl) ?_
  refine n_icmp_lt (tgt := 28) E dX0_ranked_15 rfl (by omega) (by omega) (fun h15 => ?_) (fun h15 => ?_)
  · skip
    refine lv_aload_n E.1 E.2.1 dX0_ranked_28 rfl (lv_at hl 1 rfl) ?_
    refine lv_iload_n E.1 E.2.1 dX0_ranked_29 rfl (lv_at hl 0 rfl) ?_
    refine lv_iload_n E.1 E.2.1 dX0_ranked_30 rfl (lv_at hl 2 rfl) ?_
    refine lv_iconst (v := nI 1) E.1 E.2.1 dX0_ranked_31 rfl ?_
    refine cV_wv E (As := [.int (nI (ct (ch T kc ko kv k) n)), .int (nI c), .int (bI true)]) (rest := []) (cX_sortPicked l D ad ca T n kc ko kv k lo hi bw bb u5 (ct (ch T kc ko kv k) n) c true hN (by omega) (by omega) (fun i j h1 h2 => en_up hE5 h1 h2) hpk5) kX_101 hK hP hS (fun _ h => h) 0 rfl rfl rfl rfl ⟨Nat.le_of_ble_eq_true rfl, Nat.le_of_ble_eq_true rfl⟩ rfl hl.1 rfl (Nat.le_of_ble_eq_true rfl) dX0_ranked_32 ⟨Nat.zero_le _, Nat.zero_le _⟩ (fun u32 H locs hp32 hP _ _ hS => ?_)
    obtain ⟨hSd32, hPm32⟩ := hp32
    have hP : va_P D c2 (wX ad ca T n kc ko kv k lo hi bw bb u32) H := hP
    refine lv_aload_n E.1 E.2.1 dX0_ranked_35 rfl (lv_at hl 1 rfl) ?_
    refine n_get E inX hK hP 0 rfl rfl 10 (by decide) flX_42 rfl rfl dX0_ranked_36 ?_
    refine lv_iload_n E.1 E.2.1 dX0_ranked_39 rfl (lv_at hl 3 rfl) ?_
    refine n_iald E hK hP 9 8 rfl rfl (by decide) (by omega) dX0_ranked_40 ?_
    exact e_wi E hr hlk hS u32 (⟨rfl, hSd32, u5, hE5, hPm32⟩) hP dX0_ranked_41
  · skip
    exfalso; omega
set_option maxHeartbeats 4000000 in
set_option maxRecDepth 100000 in
theorem cX_groups (l : Launch) (D : va_G) (ad : Nat → Nat) (ca : Nat → ClassId) (T : Nat → Nat → Int64) (n : Nat) (kc ko : Nat → Nat) (kv : Nat → Int64) (k : Nat) (lo hi : Nat → Int64) (bw bb pk : Nat → Nat) (c : Nat) (hIK : iK kc ko k) (hN : inj ad 10) (hn128 : n ≤ 128) (hiB : iB T n lo hi) (hc : c < 4) : Met l yX0_groups (wA yX0_groups cX0_groups 5 (some .int)) (rN 4) (va_Pc [.ref (ad 0), .int (nI c)] (pW D c2 (tX ca) (wX ad ca T n kc ko kv k lo hi bw bb pk))) (qI (fun z (q : Nat → Nat) => z = nI (ct (sg T c q) (ct (ch T kc ko kv k) n)) ∧ Gr (ch T kc ko kv k) T c n q) D c2 (fun q => wX ad ca T n kc ko kv k lo hi bw bb q) (fA ad 10)) 0 0 (fA ad 10) := by
  refine met_of RX0 rfl (by decide) (Nat.le_of_ble_eq_true rfl) (fun p e s m below meth cd ls E hr hlk _ hB hl => ?_)
  obtain ⟨hP, hK⟩ := hB
  have hl : lv_has ls 5 [(0, .ref (ad 0)), (1, .int (nI c))] := hl
  have hS : va_S (fA ad 10) s.heap s.heap [] := va_S.rf
  refine lv_iload_n E.1 E.2.1 dX0_groups_0 rfl (lv_at hl 1 rfl) ?_
  refine cS_v E (As := [.int (nI c)]) (rest := []) (cX_refuseBadColumn l c (by omega)) kX_60 rfl rfl ⟨Nat.le_of_ble_eq_true rfl, Nat.le_of_ble_eq_true rfl⟩ rfl hl.1 rfl (Nat.le_of_ble_eq_true rfl) dX0_groups_1 ⟨Nat.zero_le _, Nat.zero_le _⟩ ?_
  refine lv_aload_n E.1 E.2.1 dX0_groups_4 rfl (lv_at hl 0 rfl) ?_
  refine cV_wi E (As := []) (rest := []) (cX_pick l D ad ca T n kc ko kv k lo hi bw bb pk hIK hN hn128 hiB) kX_75 hK hP hS (fun _ h => h) 0 rfl rfl rfl rfl ⟨Nat.le_of_ble_eq_true rfl, Nat.le_of_ble_eq_true rfl⟩ rfl hl.1 rfl (Nat.le_of_ble_eq_true rfl) dX0_groups_5 ⟨Nat.zero_le _, Nat.zero_le _⟩ (fun z5 u5 H locs hp5 hP _ _ hS => ?_)
  obtain ⟨hz5, hE5⟩ := hp5
  subst hz5
  have hP : va_P D c2 (wX ad ca T n kc ko kv k lo hi bw bb u5) H := hP
  have hct := ct_le (ch T kc ko kv k) n
  have hpk5 : ∀ j, j < ct (ch T kc ko kv k) n → u5 j < 128 := fun j hj => Nat.lt_of_lt_of_le (en_inv hE5 j hj).1 hn128
  refine lv_istore_n (lv' := [(2, .int (nI (ct (ch T kc ko kv k) n))), (0, .ref (ad 0)), (1, .int (nI c))]) E.1 E.2.1 dX0_groups_8 rfl hl (by decide) rfl (fun ls hl => ?_)
  refine lv_aload_n E.1 E.2.1 dX0_groups_9 rfl (lv_at hl 1 rfl) ?_
  refine lv_iload_n E.1 E.2.1 dX0_groups_10 rfl (lv_at hl 0 rfl) ?_
  refine lv_iload_n E.1 E.2.1 dX0_groups_11 rfl (lv_at hl 2 rfl) ?_
  refine lv_iconst (v := nI 0) E.1 E.2.1 dX0_groups_12 rfl ?_
  refine cV_wv E (As := [.int (nI (ct (ch T kc ko kv k) n)), .int (nI c), .int (bI false)]) (rest := []) (cX_sortPicked l D ad ca T n kc ko kv k lo hi bw bb u5 (ct (ch T kc ko kv k) n) c false hN (by omega) (by omega) (fun i j h1 h2 => en_up hE5 h1 h2) hpk5) kX_101 hK hP hS (fun _ h => h) 0 rfl rfl rfl rfl ⟨Nat.le_of_ble_eq_true rfl, Nat.le_of_ble_eq_true rfl⟩ rfl hl.1 rfl (Nat.le_of_ble_eq_true rfl) dX0_groups_13 ⟨Nat.zero_le _, Nat.zero_le _⟩ (fun u13 H locs hp13 hP _ _ hS => ?_)
  obtain ⟨hSd13, hPm13⟩ := hp13
  have hP : va_P D c2 (wX ad ca T n kc ko kv k lo hi bw bb u13) H := hP
  have hpk13 := pm_lt hPm13 hpk5
  refine lv_iconst (v := nI 0) E.1 E.2.1 dX0_groups_16 rfl ?_
  refine lv_istore_n (lv' := [(3, .int (nI 0)), (2, .int (nI (ct (ch T kc ko kv k) n))), (0, .ref (ad 0)), (1, .int (nI c))]) E.1 E.2.1 dX0_groups_17 rfl hl (by decide) rfl (fun ls hl => ?_)
  refine lv_iconst (v := nI 0) E.1 E.2.1 dX0_groups_18 rfl ?_
  refine lv_istore (lv' := [(4, .int (nI 0)), (3, .int (nI 0)), (2, .int (nI (ct (ch T kc ko kv k) n))), (0, .ref (ad 0)), (1, .int (nI c))]) E.1 E.2.1 dX0_groups_19 hl (by decide) rfl (fun ls hl => ?_)
  refine w_lp1 (fun (i : Nat) => i ≤ ct (ch T kc ko kv k) n) (fun (i : Nat) => ct (ch T kc ko kv k) n - i) (fun (i : Nat) => [(4, .int (nI i)), (3, .int (nI (ct (sg T c u13) i))), (0, .ref (ad 0)), (1, .int (nI c)), (2, .int (nI (ct (ch T kc ko kv k) n)))]) 0 (Nat.zero_le _) (lv_sub hl [0, 1, 3, 4, 2] rfl) (fun i ls hI hl ih21 => ?_)
  have hl : lv_has ls 5 [(4, .int (nI i)), (3, .int (nI (ct (sg T c u13) i))), (0, .ref (ad 0)), (1, .int (nI c)), (2, .int (nI (ct (ch T kc ko kv k) n)))] := hl
  refine lv_iload E.1 E.2.1 dX0_groups_21 (lv_at hl 0 rfl) ?_
  refine lv_iload_n E.1 E.2.1 dX0_groups_23 rfl (lv_at hl 4 rfl) ?_
  refine n_icmp_ge (tgt := 46) E dX0_groups_24 rfl (by omega) (by omega) (fun h24 => ?_) (fun h24 => ?_)
  · skip
    refine lv_iload_n E.1 E.2.1 dX0_groups_46 rfl (lv_at hl 1 rfl) ?_
    exact e_wi E hr hlk hS u13 (⟨by rw [show ct (ch T kc ko kv k) n = i by omega], ⟨u5, hE5, hPm13⟩, hSd13⟩) hP dX0_groups_47
  · skip
    refine lv_aload_n E.1 E.2.1 dX0_groups_27 rfl (lv_at hl 2 rfl) ?_
    refine lv_iload E.1 E.2.1 dX0_groups_28 (lv_at hl 0 rfl) ?_
    refine lv_iload_n E.1 E.2.1 dX0_groups_30 rfl (lv_at hl 3 rfl) ?_
    refine cV_i E (As := [.int (nI i), .int (nI c)]) (rest := []) (cX_startsGroup l D ad ca T n kc ko kv k lo hi bw bb u13 i c (ct (ch T kc ko kv k) n)  (by omega) (by omega) (by omega) hpk13) kX_105 hK hP 0 rfl rfl rfl rfl ⟨Nat.le_of_ble_eq_true rfl, Nat.le_of_ble_eq_true rfl⟩ rfl hl.1 rfl (Nat.le_of_ble_eq_true rfl) dX0_groups_31 ⟨Nat.zero_le _, Nat.zero_le _⟩ ?_
    refine b_if_eq (tgt := 40) E dX0_groups_34 rfl (fun h34 => ?_) (fun h34 => ?_)
    · skip
      refine lv_iinc (k := 0) (v := nI (i + 1)) (lv' := [(4, .int (nI (i + 1))), (3, .int (nI (ct (sg T c u13) i))), (0, .ref (ad 0)), (1, .int (nI c)), (2, .int (nI (ct (ch T kc ko kv k) n)))]) E.1 E.2.1 dX0_groups_40 hl rfl (inc1 _) (by decide) rfl (fun ls hl => ?_)
      refine lv_goto (tgt := 21) E.1 E.2.1 dX0_groups_43 rfl ?_
      rw [← ct_f h34] at hl
      exact ih21 (i + 1) _ (by omega) (by omega) (lv_sub hl [0, 1, 2, 3, 4] rfl)
    · skip
      refine lv_iinc (k := 1) (v := nI (ct (sg T c u13) i + 1)) (lv' := [(3, .int (nI (ct (sg T c u13) i + 1))), (4, .int (nI i)), (0, .ref (ad 0)), (1, .int (nI c)), (2, .int (nI (ct (ch T kc ko kv k) n)))]) E.1 E.2.1 dX0_groups_37 hl rfl (inc1 _) (by decide) rfl (fun ls hl => ?_)
      refine lv_iinc (k := 1) (v := nI (i + 1)) (lv' := [(4, .int (nI (i + 1))), (3, .int (nI (ct (sg T c u13) i + 1))), (0, .ref (ad 0)), (1, .int (nI c)), (2, .int (nI (ct (ch T kc ko kv k) n)))]) E.1 E.2.1 dX0_groups_40 hl rfl (inc1 _) (by decide) rfl (fun ls hl => ?_)
      refine lv_goto (tgt := 21) E.1 E.2.1 dX0_groups_43 rfl ?_
      rw [← ct_t h34] at hl
      exact ih21 (i + 1) _ (by omega) (by omega) (lv_sub hl [0, 1, 2, 3, 4] rfl)
set_option maxHeartbeats 4000000 in
set_option maxRecDepth 100000 in
theorem cX_group (l : Launch) (D : va_G) (ad : Nat → Nat) (ca : Nat → ClassId) (T : Nat → Nat → Int64) (n : Nat) (kc ko : Nat → Nat) (kv : Nat → Int64) (k : Nat) (lo hi : Nat → Int64) (bw bb pk : Nat → Nat) (c i w o : Nat) (hIK : iK kc ko k) (hN : inj ad 10) (hn128 : n ≤ 128) (hiB : iB T n lo hi) (hc : c < 4) (ho : o < 4) (hw : w < 5) (hi0 : i < ct (isF (ch T kc ko kv k) T c) n) : Met l yX0_group (wA yX0_group cX0_group 8 (some .long)) (rN 4) (va_Pc [.ref (ad 0), .int (nI c), .int (nI i), .int (nI w), .int (nI o)] (pW D c2 (tX ca) (wX ad ca T n kc ko kv k lo hi bw bb pk))) (qL (fun z (q : Nat → Nat) => Gr (ch T kc ko kv k) T c n q ∧ ∃ a b, a < b ∧ b ≤ ct (ch T kc ko kv k) n ∧ sg T c q a = true ∧ ct (sg T c q) a = i ∧ (∀ j, a < j → j < b → sg T c q j = false) ∧ (b = ct (ch T kc ko kv k) n ∨ sg T c q b = true) ∧ z = (if w = 0 then T (q a) c else if w = 1 then lN (b - a) else if w = 2 then sm (fun j => T (q (a + j)) o) (b - a) else bnd (fun j => T (q (a + j)) o) (decide (w = 4)) (b - a - 1))) D c2 (fun q => wX ad ca T n kc ko kv k lo hi bw bb q) (fA ad 10)) 0 0 (fA ad 10) := by
  refine met_of RX0 rfl (by decide) (Nat.le_of_ble_eq_true rfl) (fun p e s m below meth cd ls E hr hlk _ hB hl => ?_)
  obtain ⟨hP, hK⟩ := hB
  have hl : lv_has ls 8 [(0, .ref (ad 0)), (1, .int (nI c)), (2, .int (nI i)), (3, .int (nI w)), (4, .int (nI o))] := hl
  have hS : va_S (fA ad 10) s.heap s.heap [] := va_S.rf
  refine lv_iload_n E.1 E.2.1 dX0_group_0 rfl (lv_at hl 1 rfl) ?_
  refine cS_v E (As := [.int (nI c)]) (rest := []) (cX_refuseBadColumn l c (by omega)) kX_60 rfl rfl ⟨Nat.le_of_ble_eq_true rfl, Nat.le_of_ble_eq_true rfl⟩ rfl hl.1 rfl (Nat.le_of_ble_eq_true rfl) dX0_group_1 ⟨Nat.zero_le _, Nat.zero_le _⟩ ?_
  refine lv_iload E.1 E.2.1 dX0_group_4 (lv_at hl 4 rfl) ?_
  refine cS_v E (As := [.int (nI o)]) (rest := []) (cX_refuseBadColumn l o (by omega)) kX_60 rfl rfl ⟨Nat.le_of_ble_eq_true rfl, Nat.le_of_ble_eq_true rfl⟩ rfl hl.1 rfl (Nat.le_of_ble_eq_true rfl) dX0_group_6 ⟨Nat.zero_le _, Nat.zero_le _⟩ ?_
  refine lv_iload_n E.1 E.2.1 dX0_group_9 rfl (lv_at hl 3 rfl) ?_
  refine n_if_lt (tgt := 18) E dX0_group_10 rfl (by omega) ?_
  refine lv_iload_n E.1 E.2.1 dX0_group_13 rfl (lv_at hl 3 rfl) ?_
  refine lv_iconst (v := nI 4) E.1 E.2.1 dX0_group_14 rfl ?_
  refine n_icmp_le (tgt := 28) E dX0_group_15 rfl (by omega) (by omega) (fun h15 => ?_) (fun h15 => ?_)
  · skip
    refine lv_aload_n E.1 E.2.1 dX0_group_28 rfl (lv_at hl 0 rfl) ?_
    refine cV_wi E (As := []) (rest := []) (cX_pick l D ad ca T n kc ko kv k lo hi bw bb pk hIK hN hn128 hiB) kX_75 hK hP hS (fun _ h => h) 0 rfl rfl rfl rfl ⟨Nat.le_of_ble_eq_true rfl, Nat.le_of_ble_eq_true rfl⟩ rfl hl.1 rfl (Nat.le_of_ble_eq_true rfl) dX0_group_29 ⟨Nat.zero_le _, Nat.zero_le _⟩ (fun z29 u29 H locs hp29 hP _ _ hS => ?_)
    obtain ⟨hz29, hE29⟩ := hp29
    subst hz29
    have hP : va_P D c2 (wX ad ca T n kc ko kv k lo hi bw bb u29) H := hP
    have hct := ct_le (ch T kc ko kv k) n
    have hpk29 : ∀ j, j < ct (ch T kc ko kv k) n → u29 j < 128 := fun j hj => Nat.lt_of_lt_of_le (en_inv hE29 j hj).1 hn128
    refine lv_istore (lv' := [(5, .int (nI (ct (ch T kc ko kv k) n))), (0, .ref (ad 0)), (1, .int (nI c)), (2, .int (nI i)), (3, .int (nI w)), (4, .int (nI o))]) E.1 E.2.1 dX0_group_32 hl (by decide) rfl (fun ls hl => ?_)
    refine lv_aload_n E.1 E.2.1 dX0_group_34 rfl (lv_at hl 1 rfl) ?_
    refine lv_iload E.1 E.2.1 dX0_group_35 (lv_at hl 0 rfl) ?_
    refine lv_iload_n E.1 E.2.1 dX0_group_37 rfl (lv_at hl 2 rfl) ?_
    refine lv_iconst (v := nI 0) E.1 E.2.1 dX0_group_38 rfl ?_
    refine cV_wv E (As := [.int (nI (ct (ch T kc ko kv k) n)), .int (nI c), .int (bI false)]) (rest := []) (cX_sortPicked l D ad ca T n kc ko kv k lo hi bw bb u29 (ct (ch T kc ko kv k) n) c false hN (by omega) (by omega) (fun i j h1 h2 => en_up hE29 h1 h2) hpk29) kX_101 hK hP hS (fun _ h => h) 0 rfl rfl rfl rfl ⟨Nat.le_of_ble_eq_true rfl, Nat.le_of_ble_eq_true rfl⟩ rfl hl.1 rfl (Nat.le_of_ble_eq_true rfl) dX0_group_39 ⟨Nat.zero_le _, Nat.zero_le _⟩ (fun u39 H locs hp39 hP _ _ hS => ?_)
    obtain ⟨hSd39, hPm39⟩ := hp39
    have hP : va_P D c2 (wX ad ca T n kc ko kv k lo hi bw bb u39) H := hP
    have hpk39 := pm_lt hPm39 hpk29
    have hGr : Gr (ch T kc ko kv k) T c n u39 := ⟨⟨u29, hE29, hPm39⟩, hSd39⟩
    obtain ⟨a, ha1, ha2, ha3⟩ := ct_at (show i < ct (sg T c u39) (ct (ch T kc ko kv k) n) by rw [hGr.count]; exact hi0)
    refine lv_aload_n E.1 E.2.1 dX0_group_42 rfl (lv_at hl 1 rfl) ?_
    refine lv_iload_n E.1 E.2.1 dX0_group_43 rfl (lv_at hl 3 rfl) ?_
    refine lv_iload_n E.1 E.2.1 dX0_group_44 rfl (lv_at hl 2 rfl) ?_
    refine lv_iload E.1 E.2.1 dX0_group_45 (lv_at hl 0 rfl) ?_
    refine cV_i E (As := [.int (nI i), .int (nI c), .int (nI (ct (ch T kc ko kv k) n))]) (rest := []) (cX_groupStart l D ad ca T n kc ko kv k lo hi bw bb u39 (nI i) c (ct (ch T kc ko kv k) n) (by omega) (by omega) hpk39) kX_111 hK hP 0 rfl rfl rfl rfl ⟨Nat.le_of_ble_eq_true rfl, Nat.le_of_ble_eq_true rfl⟩ rfl hl.1 rfl (Nat.le_of_ble_eq_true rfl) dX0_group_47 ⟨Nat.zero_le _, Nat.zero_le _⟩ ?_
    refine tpi (y := nI a) (gsF_some ha2 ha3 (by have := ct_le (sg T c u39) a; omega) _ 0 (Nat.zero_le _) (by omega)) ?_
    refine lv_istore (lv' := [(6, .int (nI a)), (5, .int (nI (ct (ch T kc ko kv k) n))), (0, .ref (ad 0)), (1, .int (nI c)), (2, .int (nI i)), (3, .int (nI w)), (4, .int (nI o))]) E.1 E.2.1 dX0_group_50 hl (by decide) rfl (fun ls hl => ?_)
    refine lv_iload E.1 E.2.1 dX0_group_52 (lv_at hl 0 rfl) ?_
    refine n_if_ge (tgt := 67) E dX0_group_54 rfl (by omega) ?_
    refine lv_aload_n E.1 E.2.1 dX0_group_67 rfl (lv_at hl 2 rfl) ?_
    refine lv_iload E.1 E.2.1 dX0_group_68 (lv_at hl 0 rfl) ?_
    refine lv_iload_n E.1 E.2.1 dX0_group_70 rfl (lv_at hl 3 rfl) ?_
    refine lv_iload E.1 E.2.1 dX0_group_71 (lv_at hl 1 rfl) ?_
    refine cV_i E (As := [.int (nI a), .int (nI c), .int (nI (ct (ch T kc ko kv k) n))]) (rest := []) (cX_groupEnd l D ad ca T n kc ko kv k lo hi bw bb u39 a c (ct (ch T kc ko kv k) n) (by omega) (by omega) (by omega) hpk39) kX_117 hK hP 0 rfl rfl rfl rfl ⟨Nat.le_of_ble_eq_true rfl, Nat.le_of_ble_eq_true rfl⟩ rfl hl.1 rfl (Nat.le_of_ble_eq_true rfl) dX0_group_73 ⟨Nat.zero_le _, Nat.zero_le _⟩ ?_
    obtain ⟨hge1, hge2, hge3, hge4⟩ := gE_spec (p := sg T c u39) (ct (ch T kc ko kv k) n - (a + 1)) (a + 1)
    rw [show a + 1 + (ct (ch T kc ko kv k) n - (a + 1)) = ct (ch T kc ko kv k) n by omega] at hge2 hge4
    refine lv_istore (lv' := [(7, .int (nI (gE (sg T c u39) (a + 1) ((ct (ch T kc ko kv k) n) - (a + 1))))), (6, .int (nI a)), (5, .int (nI (ct (ch T kc ko kv k) n))), (0, .ref (ad 0)), (1, .int (nI c)), (2, .int (nI i)), (3, .int (nI w)), (4, .int (nI o))]) E.1 E.2.1 dX0_group_76 hl (by decide) rfl (fun ls hl => ?_)
    refine lv_iload_n E.1 E.2.1 dX0_group_78 rfl (lv_at hl 6 rfl) ?_
    rcases (show w = 0 ∨ w = 1 ∨ w = 2 ∨ w = 3 ∨ w = 4 by omega) with rfl | rfl | rfl | rfl | rfl
    · skip
      refine lv_tableIn (off := 29) (tgt := 108) E.1 E.2.1 dX0_group_79 (by decide) (by decide) (by decide) rfl ?_
      refine lv_aload_n E.1 E.2.1 dX0_group_108 rfl (lv_at hl 3 rfl) ?_
      refine n_get E inX hK hP 0 rfl rfl 0 (by decide) flX_9 rfl rfl dX0_group_109 ?_
      refine lv_aload_n E.1 E.2.1 dX0_group_112 rfl (lv_at hl 3 rfl) ?_
      refine n_get E inX hK hP 0 rfl rfl 10 (by decide) flX_42 rfl rfl dX0_group_113 ?_
      refine lv_iload E.1 E.2.1 dX0_group_116 (lv_at hl 1 rfl) ?_
      have hq := hpk39 a ha1
      refine n_iald E hK hP 9 8 rfl rfl (by decide) (by omega) dX0_group_118 ?_
      refine lv_iload_n E.1 E.2.1 dX0_group_119 rfl (lv_at hl 4 rfl) ?_
      refine cS_i E (As := [.int (nI (u39 a)), .int (nI c)]) (rest := [.ref (ad 1)]) (cX_spot l (u39 a) c) kX_52 rfl rfl ⟨Nat.le_of_ble_eq_true rfl, Nat.le_of_ble_eq_true rfl⟩ rfl hl.1 rfl (Nat.le_of_ble_eq_true rfl) dX0_group_120 ⟨Nat.zero_le _, Nat.zero_le _⟩ ?_
      refine n_cald E hK hP 1 0 rfl rfl (u39 a) c (by omega) (by omega) (by omega) dX0_group_123 ?_
      exact e_wl E hr hlk hS u39 (⟨hGr, a, gE (sg T c u39) (a + 1) (ct (ch T kc ko kv k) n - (a + 1)), by omega, by omega, ha2, ha3, fun j h1 h2 => hge3 j (by omega) h2, hge4, rfl⟩) hP dX0_group_124
    · skip
      refine lv_tableIn (off := 46) (tgt := 125) E.1 E.2.1 dX0_group_79 (by decide) (by decide) (by decide) rfl ?_
      refine lv_iload E.1 E.2.1 dX0_group_125 (lv_at hl 0 rfl) ?_
      refine lv_iload E.1 E.2.1 dX0_group_127 (lv_at hl 1 rfl) ?_
      refine n_isub E (by omega) dX0_group_129 ?_
      refine n_i2l E (by omega) dX0_group_130 ?_
      exact e_wl E hr hlk hS u39 (⟨hGr, a, gE (sg T c u39) (a + 1) (ct (ch T kc ko kv k) n - (a + 1)), by omega, by omega, ha2, ha3, fun j h1 h2 => hge3 j (by omega) h2, hge4, rfl⟩) hP dX0_group_131
    · skip
      refine lv_tableIn (off := 53) (tgt := 132) E.1 E.2.1 dX0_group_79 (by decide) (by decide) (by decide) rfl ?_
      refine lv_aload_n E.1 E.2.1 dX0_group_132 rfl (lv_at hl 3 rfl) ?_
      refine lv_iload E.1 E.2.1 dX0_group_133 (lv_at hl 7 rfl) ?_
      refine lv_iload E.1 E.2.1 dX0_group_135 (lv_at hl 1 rfl) ?_
      refine lv_iload E.1 E.2.1 dX0_group_137 (lv_at hl 0 rfl) ?_
      refine cV_l E (As := [.int (nI o), .int (nI a), .int (nI (gE (sg T c u39) (a + 1) ((ct (ch T kc ko kv k) n) - (a + 1))))]) (rest := []) (cX_sumOfPicked l D ad ca T n kc ko kv k lo hi bw bb u39 o a (gE (sg T c u39) (a + 1) ((ct (ch T kc ko kv k) n) - (a + 1))) (by omega) (by omega) (by omega) (fun j hj => hpk39 j (by omega))) kX_88 hK hP 0 rfl rfl rfl rfl ⟨Nat.le_of_ble_eq_true rfl, Nat.le_of_ble_eq_true rfl⟩ rfl hl.1 rfl (Nat.le_of_ble_eq_true rfl) dX0_group_139 ⟨Nat.zero_le _, Nat.zero_le _⟩ ?_
      exact e_wl E hr hlk hS u39 (⟨hGr, a, gE (sg T c u39) (a + 1) (ct (ch T kc ko kv k) n - (a + 1)), by omega, by omega, ha2, ha3, fun j h1 h2 => hge3 j (by omega) h2, hge4, rfl⟩) hP dX0_group_142
    · skip
      refine lv_tableIn (off := 64) (tgt := 143) E.1 E.2.1 dX0_group_79 (by decide) (by decide) (by decide) rfl ?_
      refine lv_aload_n E.1 E.2.1 dX0_group_143 rfl (lv_at hl 3 rfl) ?_
      refine lv_iload E.1 E.2.1 dX0_group_144 (lv_at hl 7 rfl) ?_
      refine lv_iconst (v := nI 0) E.1 E.2.1 dX0_group_146 rfl ?_
      refine lv_iload E.1 E.2.1 dX0_group_147 (lv_at hl 1 rfl) ?_
      refine lv_iload E.1 E.2.1 dX0_group_149 (lv_at hl 0 rfl) ?_
      refine cV_l E (As := [.int (nI o), .int (nI 0), .int (nI a), .int (nI (gE (sg T c u39) (a + 1) ((ct (ch T kc ko kv k) n) - (a + 1))))]) (rest := []) (cX_boundOfPicked l D ad ca T n kc ko kv k lo hi bw bb u39 o false a (gE (sg T c u39) (a + 1) ((ct (ch T kc ko kv k) n) - (a + 1))) (by omega) (by omega) (by omega) (fun j hj => hpk39 j (by omega))) kX_97 hK hP 0 rfl rfl rfl rfl ⟨Nat.le_of_ble_eq_true rfl, Nat.le_of_ble_eq_true rfl⟩ rfl hl.1 rfl (Nat.le_of_ble_eq_true rfl) dX0_group_151 ⟨Nat.zero_le _, Nat.zero_le _⟩ ?_
      exact e_wl E hr hlk hS u39 (⟨hGr, a, gE (sg T c u39) (a + 1) (ct (ch T kc ko kv k) n - (a + 1)), by omega, by omega, ha2, ha3, fun j h1 h2 => hge3 j (by omega) h2, hge4, rfl⟩) hP dX0_group_154
    · skip
      refine lv_tableOut (tgt := 155) E.1 E.2.1 dX0_group_79 (by decide) rfl ?_
      refine lv_aload_n E.1 E.2.1 dX0_group_155 rfl (lv_at hl 3 rfl) ?_
      refine lv_iload E.1 E.2.1 dX0_group_156 (lv_at hl 7 rfl) ?_
      refine lv_iconst (v := nI 1) E.1 E.2.1 dX0_group_158 rfl ?_
      refine lv_iload E.1 E.2.1 dX0_group_159 (lv_at hl 1 rfl) ?_
      refine lv_iload E.1 E.2.1 dX0_group_161 (lv_at hl 0 rfl) ?_
      refine cV_l E (As := [.int (nI o), .int (nI 1), .int (nI a), .int (nI (gE (sg T c u39) (a + 1) ((ct (ch T kc ko kv k) n) - (a + 1))))]) (rest := []) (cX_boundOfPicked l D ad ca T n kc ko kv k lo hi bw bb u39 o true a (gE (sg T c u39) (a + 1) ((ct (ch T kc ko kv k) n) - (a + 1))) (by omega) (by omega) (by omega) (fun j hj => hpk39 j (by omega))) kX_97 hK hP 0 rfl rfl rfl rfl ⟨Nat.le_of_ble_eq_true rfl, Nat.le_of_ble_eq_true rfl⟩ rfl hl.1 rfl (Nat.le_of_ble_eq_true rfl) dX0_group_163 ⟨Nat.zero_le _, Nat.zero_le _⟩ ?_
      exact e_wl E hr hlk hS u39 (⟨hGr, a, gE (sg T c u39) (a + 1) (ct (ch T kc ko kv k) n - (a + 1)), by omega, by omega, ha2, ha3, fun j h1 h2 => hge3 j (by omega) h2, hge4, rfl⟩) hP dX0_group_166
  · skip
    exfalso; omega
set_option maxHeartbeats 4000000 in
set_option maxRecDepth 100000 in
theorem cX_pairs (l : Launch) (D : va_G) (ad : Nat → Nat) (ca : Nat → ClassId) (T : Nat → Nat → Int64) (n : Nat) (kc ko : Nat → Nat) (kv : Nat → Int64) (k : Nat) (lo hi : Nat → Int64) (bw bb pk : Nat → Nat) (c o : Nat) (hIK : iK kc ko k) (hN : inj ad 10) (hn128 : n ≤ 128) (hiB : iB T n lo hi) (hc : c < 4) (ho : o < 4) : Met l yX0_pairs (wA yX0_pairs cX0_pairs 9 (some .int)) (rN 4) (va_Pc [.ref (ad 0), .int (nI c), .int (nI o)] (pW D c2 (tX ca) (wX ad ca T n kc ko kv k lo hi bw bb pk))) (qI (fun z (q : Nat → Nat) => z = nI (sn (fun t => ct (fun j => decide (T (q j) c = T (q t) o)) t) (ct (ch T kc ko kv k) n)) ∧ En q (ch T kc ko kv k) n) D c2 (fun q => wX ad ca T n kc ko kv k lo hi bw bb q) (fA ad 10)) 0 0 (fA ad 10) := by
  refine met_of RX0 rfl (by decide) (Nat.le_of_ble_eq_true rfl) (fun p e s m below meth cd ls E hr hlk _ hB hl => ?_)
  obtain ⟨hP, hK⟩ := hB
  have hl : lv_has ls 9 [(0, .ref (ad 0)), (1, .int (nI c)), (2, .int (nI o))] := hl
  have hS : va_S (fA ad 10) s.heap s.heap [] := va_S.rf
  refine lv_iload_n E.1 E.2.1 dX0_pairs_0 rfl (lv_at hl 1 rfl) ?_
  refine cS_v E (As := [.int (nI c)]) (rest := []) (cX_refuseBadColumn l c (by omega)) kX_60 rfl rfl ⟨Nat.le_of_ble_eq_true rfl, Nat.le_of_ble_eq_true rfl⟩ rfl hl.1 rfl (Nat.le_of_ble_eq_true rfl) dX0_pairs_1 ⟨Nat.zero_le _, Nat.zero_le _⟩ ?_
  refine lv_iload_n E.1 E.2.1 dX0_pairs_4 rfl (lv_at hl 2 rfl) ?_
  refine cS_v E (As := [.int (nI o)]) (rest := []) (cX_refuseBadColumn l o (by omega)) kX_60 rfl rfl ⟨Nat.le_of_ble_eq_true rfl, Nat.le_of_ble_eq_true rfl⟩ rfl hl.1 rfl (Nat.le_of_ble_eq_true rfl) dX0_pairs_5 ⟨Nat.zero_le _, Nat.zero_le _⟩ ?_
  refine lv_aload_n E.1 E.2.1 dX0_pairs_8 rfl (lv_at hl 0 rfl) ?_
  refine cV_wi E (As := []) (rest := []) (cX_pick l D ad ca T n kc ko kv k lo hi bw bb pk hIK hN hn128 hiB) kX_75 hK hP hS (fun _ h => h) 0 rfl rfl rfl rfl ⟨Nat.le_of_ble_eq_true rfl, Nat.le_of_ble_eq_true rfl⟩ rfl hl.1 rfl (Nat.le_of_ble_eq_true rfl) dX0_pairs_9 ⟨Nat.zero_le _, Nat.zero_le _⟩ (fun z9 u9 H locs hp9 hP _ _ hS => ?_)
  obtain ⟨hz9, hE9⟩ := hp9
  subst hz9
  have hP : va_P D c2 (wX ad ca T n kc ko kv k lo hi bw bb u9) H := hP
  have hct := ct_le (ch T kc ko kv k) n
  have hpk9 : ∀ j, j < ct (ch T kc ko kv k) n → u9 j < 128 := fun j hj => Nat.lt_of_lt_of_le (en_inv hE9 j hj).1 hn128
  refine lv_istore_n (lv' := [(3, .int (nI (ct (ch T kc ko kv k) n))), (0, .ref (ad 0)), (1, .int (nI c)), (2, .int (nI o))]) E.1 E.2.1 dX0_pairs_12 rfl hl (by decide) rfl (fun ls hl => ?_)
  refine lv_iconst (v := nI 0) E.1 E.2.1 dX0_pairs_13 rfl ?_
  refine lv_istore (lv' := [(4, .int (nI 0)), (3, .int (nI (ct (ch T kc ko kv k) n))), (0, .ref (ad 0)), (1, .int (nI c)), (2, .int (nI o))]) E.1 E.2.1 dX0_pairs_14 hl (by decide) rfl (fun ls hl => ?_)
  refine lv_iconst (v := nI 1) E.1 E.2.1 dX0_pairs_16 rfl ?_
  refine lv_istore (lv' := [(5, .int (nI 1)), (4, .int (nI 0)), (3, .int (nI (ct (ch T kc ko kv k) n))), (0, .ref (ad 0)), (1, .int (nI c)), (2, .int (nI o))]) E.1 E.2.1 dX0_pairs_17 hl (by decide) rfl (fun ls hl => ?_)
  refine w_lp1 (fun (t : Nat) => 1 ≤ t ∧ (t ≤ ct (ch T kc ko kv k) n ∨ t = 1)) (fun (t : Nat) => ct (ch T kc ko kv k) n - t) (fun (t : Nat) => [(5, .int (nI t)), (4, .int (nI (sn (fun t => ct (fun j => decide (T (u9 j) c = T (u9 t) o)) t) t))), (0, .ref (ad 0)), (1, .int (nI c)), (2, .int (nI o)), (3, .int (nI (ct (ch T kc ko kv k) n)))]) 1 (⟨Nat.le_refl _, Or.inr rfl⟩) (lv_sub hl [0, 1, 3, 4, 5, 2] rfl) (fun t ls hI hl ih19 => ?_)
  have hl : lv_has ls 9 [(5, .int (nI t)), (4, .int (nI (sn (fun t => ct (fun j => decide (T (u9 j) c = T (u9 t) o)) t) t))), (0, .ref (ad 0)), (1, .int (nI c)), (2, .int (nI o)), (3, .int (nI (ct (ch T kc ko kv k) n)))] := hl
  refine lv_iload E.1 E.2.1 dX0_pairs_19 (lv_at hl 0 rfl) ?_
  refine lv_iload_n E.1 E.2.1 dX0_pairs_21 rfl (lv_at hl 5 rfl) ?_
  refine n_icmp_ge (tgt := 90) E dX0_pairs_22 rfl (by omega) (by omega) (fun h22 => ?_) (fun h22 => ?_)
  · skip
    refine lv_iload E.1 E.2.1 dX0_pairs_90 (lv_at hl 1 rfl) ?_
    exact e_wi E hr hlk hS u9 (⟨sn_end (by omega), hE9⟩) hP dX0_pairs_92
  · skip
    refine lv_aload_n E.1 E.2.1 dX0_pairs_25 rfl (lv_at hl 2 rfl) ?_
    refine n_get E inX hK hP 0 rfl rfl 0 (by decide) flX_9 rfl rfl dX0_pairs_26 ?_
    refine lv_aload_n E.1 E.2.1 dX0_pairs_29 rfl (lv_at hl 2 rfl) ?_
    refine n_get E inX hK hP 0 rfl rfl 10 (by decide) flX_42 rfl rfl dX0_pairs_30 ?_
    refine lv_iload E.1 E.2.1 dX0_pairs_33 (lv_at hl 0 rfl) ?_
    have hq := hpk9 t (by omega)
    refine n_iald E hK hP 9 8 rfl rfl (by decide) (by omega) dX0_pairs_35 ?_
    refine lv_iload_n E.1 E.2.1 dX0_pairs_36 rfl (lv_at hl 4 rfl) ?_
    refine cS_i E (As := [.int (nI (u9 t)), .int (nI o)]) (rest := [.ref (ad 1)]) (cX_spot l (u9 t) o) kX_52 rfl rfl ⟨Nat.le_of_ble_eq_true rfl, Nat.le_of_ble_eq_true rfl⟩ rfl hl.1 rfl (Nat.le_of_ble_eq_true rfl) dX0_pairs_37 ⟨Nat.zero_le _, Nat.zero_le _⟩ ?_
    refine n_cald E hK hP 1 0 rfl rfl (u9 t) o (by omega) (by omega) (by omega) dX0_pairs_40 ?_
    refine lv_lstore (lv' := [(6, .long (T (u9 t) o)), (5, .int (nI t)), (4, .int (nI (sn (fun t => ct (fun j => decide (T (u9 j) c = T (u9 t) o)) t) t))), (0, .ref (ad 0)), (1, .int (nI c)), (2, .int (nI o)), (3, .int (nI (ct (ch T kc ko kv k) n)))]) E.1 E.2.1 dX0_pairs_41 hl (by decide) rfl (fun ls hl => ?_)
    refine lv_iconst (v := nI 0) E.1 E.2.1 dX0_pairs_43 rfl ?_
    refine lv_istore (lv' := [(8, .int (nI 0)), (6, .long (T (u9 t) o)), (5, .int (nI t)), (4, .int (nI (sn (fun t => ct (fun j => decide (T (u9 j) c = T (u9 t) o)) t) t))), (0, .ref (ad 0)), (1, .int (nI c)), (2, .int (nI o)), (3, .int (nI (ct (ch T kc ko kv k) n)))]) E.1 E.2.1 dX0_pairs_44 hl (by decide) rfl (fun ls hl => ?_)
    refine w_lp1 (fun (j : Nat) => j ≤ t) (fun (j : Nat) => t - j) (fun (j : Nat) => [(8, .int (nI j)), (4, .int (nI (sn (fun t => ct (fun j => decide (T (u9 j) c = T (u9 t) o)) t) t + ct (fun j => decide (T (u9 j) c = T (u9 t) o)) j))), (5, .int (nI t)), (6, .long (T (u9 t) o)), (0, .ref (ad 0)), (1, .int (nI c)), (2, .int (nI o)), (3, .int (nI (ct (ch T kc ko kv k) n)))]) 0 (Nat.zero_le _) (lv_sub hl [0, 3, 2, 1, 4, 5, 6, 7] rfl) (fun j ls hI hl ih46 => ?_)
    have hl : lv_has ls 9 [(8, .int (nI j)), (4, .int (nI (sn (fun t => ct (fun j => decide (T (u9 j) c = T (u9 t) o)) t) t + ct (fun j => decide (T (u9 j) c = T (u9 t) o)) j))), (5, .int (nI t)), (6, .long (T (u9 t) o)), (0, .ref (ad 0)), (1, .int (nI c)), (2, .int (nI o)), (3, .int (nI (ct (ch T kc ko kv k) n)))] := hl
    refine lv_iload E.1 E.2.1 dX0_pairs_46 (lv_at hl 0 rfl) ?_
    refine lv_iload E.1 E.2.1 dX0_pairs_48 (lv_at hl 2 rfl) ?_
    refine n_icmp_ge (tgt := 84) E dX0_pairs_50 rfl (by omega) (by omega) (fun h50 => ?_) (fun h50 => ?_)
    · skip
      refine lv_iinc (k := 2) (v := nI (t + 1)) (lv' := [(5, .int (nI (t + 1))), (8, .int (nI j)), (4, .int (nI (sn (fun t => ct (fun j => decide (T (u9 j) c = T (u9 t) o)) t) t + ct (fun j => decide (T (u9 j) c = T (u9 t) o)) j))), (6, .long (T (u9 t) o)), (0, .ref (ad 0)), (1, .int (nI c)), (2, .int (nI o)), (3, .int (nI (ct (ch T kc ko kv k) n)))]) E.1 E.2.1 dX0_pairs_84 hl rfl (inc1 _) (by decide) rfl (fun ls hl => ?_)
      refine lv_goto (tgt := 19) E.1 E.2.1 dX0_pairs_87 rfl ?_
      have e9 : t = j := by omega
      subst e9
      exact ih19 (t + 1) _ (⟨by omega, by omega⟩) (by omega) (lv_sub hl [0, 2, 4, 5, 6, 7] rfl)
    · skip
      refine lv_aload_n E.1 E.2.1 dX0_pairs_53 rfl (lv_at hl 4 rfl) ?_
      refine n_get E inX hK hP 0 rfl rfl 0 (by decide) flX_9 rfl rfl dX0_pairs_54 ?_
      refine lv_aload_n E.1 E.2.1 dX0_pairs_57 rfl (lv_at hl 4 rfl) ?_
      refine n_get E inX hK hP 0 rfl rfl 10 (by decide) flX_42 rfl rfl dX0_pairs_58 ?_
      refine lv_iload E.1 E.2.1 dX0_pairs_61 (lv_at hl 0 rfl) ?_
      have hq2 := hpk9 j (by omega)
      refine n_iald E hK hP 9 8 rfl rfl (by decide) (by omega) dX0_pairs_63 ?_
      refine lv_iload_n E.1 E.2.1 dX0_pairs_64 rfl (lv_at hl 5 rfl) ?_
      refine cS_i E (As := [.int (nI (u9 j)), .int (nI c)]) (rest := [.ref (ad 1)]) (cX_spot l (u9 j) c) kX_52 rfl rfl ⟨Nat.le_of_ble_eq_true rfl, Nat.le_of_ble_eq_true rfl⟩ rfl hl.1 rfl (Nat.le_of_ble_eq_true rfl) dX0_pairs_65 ⟨Nat.zero_le _, Nat.zero_le _⟩ ?_
      refine n_cald E hK hP 1 0 rfl rfl (u9 j) c (by omega) (by omega) (by omega) dX0_pairs_68 ?_
      refine lv_lload E.1 E.2.1 dX0_pairs_69 (lv_at hl 3 rfl) ?_
      refine l_if_ne (tgt := 78) E dX0_pairs_71 dX0_pairs_72 rfl (fun h71 => ?_) (fun h71 => ?_)
      · skip
        refine lv_iinc (k := 0) (v := nI (j + 1)) (lv' := [(8, .int (nI (j + 1))), (4, .int (nI (sn (fun t => ct (fun j => decide (T (u9 j) c = T (u9 t) o)) t) t + ct (fun j => decide (T (u9 j) c = T (u9 t) o)) j))), (5, .int (nI t)), (6, .long (T (u9 t) o)), (0, .ref (ad 0)), (1, .int (nI c)), (2, .int (nI o)), (3, .int (nI (ct (ch T kc ko kv k) n)))]) E.1 E.2.1 dX0_pairs_78 hl rfl (inc1 _) (by decide) rfl (fun ls hl => ?_)
        refine lv_goto (tgt := 46) E.1 E.2.1 dX0_pairs_81 rfl ?_
        rw [← ct_f (p := fun j => decide (T (u9 j) c = T (u9 t) o)) (decide_eq_false h71)] at hl
        exact ih46 (j + 1) _ (by omega) (by omega) (lv_sub hl [0, 1, 2, 3, 4, 5, 6, 7] rfl)
      · skip
        refine lv_iinc (k := 1) (v := nI (sn (fun t => ct (fun j => decide (T (u9 j) c = T (u9 t) o)) t) t + ct (fun j => decide (T (u9 j) c = T (u9 t) o)) j + 1)) (lv' := [(4, .int (nI (sn (fun t => ct (fun j => decide (T (u9 j) c = T (u9 t) o)) t) t + ct (fun j => decide (T (u9 j) c = T (u9 t) o)) j + 1))), (8, .int (nI j)), (5, .int (nI t)), (6, .long (T (u9 t) o)), (0, .ref (ad 0)), (1, .int (nI c)), (2, .int (nI o)), (3, .int (nI (ct (ch T kc ko kv k) n)))]) E.1 E.2.1 dX0_pairs_75 hl rfl (inc1 _) (by decide) rfl (fun ls hl => ?_)
        refine lv_iinc (k := 1) (v := nI (j + 1)) (lv' := [(8, .int (nI (j + 1))), (4, .int (nI (sn (fun t => ct (fun j => decide (T (u9 j) c = T (u9 t) o)) t) t + ct (fun j => decide (T (u9 j) c = T (u9 t) o)) j + 1))), (5, .int (nI t)), (6, .long (T (u9 t) o)), (0, .ref (ad 0)), (1, .int (nI c)), (2, .int (nI o)), (3, .int (nI (ct (ch T kc ko kv k) n)))]) E.1 E.2.1 dX0_pairs_78 hl rfl (inc1 _) (by decide) rfl (fun ls hl => ?_)
        refine lv_goto (tgt := 46) E.1 E.2.1 dX0_pairs_81 rfl ?_
        rw [Nat.add_assoc, ← ct_t (p := fun j => decide (T (u9 j) c = T (u9 t) o)) (decide_eq_true h71)] at hl
        exact ih46 (j + 1) _ (by omega) (by omega) (lv_sub hl [0, 1, 2, 3, 4, 5, 6, 7] rfl)
set_option maxHeartbeats 4000000 in
set_option maxRecDepth 100000 in
theorem cX_way (l : Launch) (D : va_G) (ad : Nat → Nat) (ca : Nat → ClassId) (T : Nat → Nat → Int64) (n : Nat) (kc ko : Nat → Nat) (kv : Nat → Int64) (k : Nat) (lo hi : Nat → Int64) (bw bb pk : Nat → Nat) (b c : Nat) (hn128 : n ≤ 128) (hb : b < n / 16) (hc : c < 4) : Met l yX0_way (wA yX0_way cX0_way 3 (some .int)) (rN 2) (va_Pc [.ref (ad 0), .int (nI b), .int (nI c)] (pW D c2 (tX ca) (wX ad ca T n kc ko kv k lo hi bw bb pk))) (vp_Si (fun z => z = nI (bw (b * 4 + c)))) 0 0 (fun _ => False) := by
  refine met_of RX0 rfl (by decide) (Nat.le_of_ble_eq_true rfl) (fun p e s m below meth cd ls E hr hlk _ hB hl => ?_)
  obtain ⟨hP, hK⟩ := hB
  have hl : lv_has ls 3 [(0, .ref (ad 0)), (1, .int (nI b)), (2, .int (nI c))] := hl
  refine lv_iload_n E.1 E.2.1 dX0_way_0 rfl (lv_at hl 2 rfl) ?_
  refine cS_v E (As := [.int (nI c)]) (rest := []) (cX_refuseBadColumn l c (by omega)) kX_60 rfl rfl ⟨Nat.le_of_ble_eq_true rfl, Nat.le_of_ble_eq_true rfl⟩ rfl hl.1 rfl (Nat.le_of_ble_eq_true rfl) dX0_way_1 ⟨Nat.zero_le _, Nat.zero_le _⟩ ?_
  refine lv_aload_n E.1 E.2.1 dX0_way_4 rfl (lv_at hl 0 rfl) ?_
  refine lv_iload_n E.1 E.2.1 dX0_way_5 rfl (lv_at hl 1 rfl) ?_
  refine cV_v E (As := [.int (nI b)]) (rest := []) (cX_refuseUnpackedBlock l D ad ca T n kc ko kv k lo hi bw bb pk b (by omega) (by omega)) kX_120 hK hP 0 rfl rfl rfl rfl ⟨Nat.le_of_ble_eq_true rfl, Nat.le_of_ble_eq_true rfl⟩ rfl hl.1 rfl (Nat.le_of_ble_eq_true rfl) dX0_way_6 ⟨Nat.zero_le _, Nat.zero_le _⟩ ?_
  refine lv_aload_n E.1 E.2.1 dX0_way_9 rfl (lv_at hl 0 rfl) ?_
  refine n_get E inX hK hP 0 rfl rfl 8 (by decide) flX_36 rfl rfl dX0_way_10 ?_
  refine lv_iload_n E.1 E.2.1 dX0_way_13 rfl (lv_at hl 1 rfl) ?_
  refine lv_iload_n E.1 E.2.1 dX0_way_14 rfl (lv_at hl 2 rfl) ?_
  refine cS_i E (As := [.int (nI b), .int (nI c)]) (rest := [.ref (ad 7)]) (cX_place l b c) kX_123 rfl rfl ⟨Nat.le_of_ble_eq_true rfl, Nat.le_of_ble_eq_true rfl⟩ rfl hl.1 rfl (Nat.le_of_ble_eq_true rfl) dX0_way_15 ⟨Nat.zero_le _, Nat.zero_le _⟩ ?_
  refine n_iald E hK hP 7 6 rfl rfl (by decide) (by omega) dX0_way_18 ?_
  exact e_i E hr hlk rfl dX0_way_19
set_option maxHeartbeats 4000000 in
set_option maxRecDepth 100000 in
theorem cX_bits (l : Launch) (D : va_G) (ad : Nat → Nat) (ca : Nat → ClassId) (T : Nat → Nat → Int64) (n : Nat) (kc ko : Nat → Nat) (kv : Nat → Int64) (k : Nat) (lo hi : Nat → Int64) (bw bb pk : Nat → Nat) (b c : Nat) (hn128 : n ≤ 128) (hb : b < n / 16) (hc : c < 4) : Met l yX0_bits (wA yX0_bits cX0_bits 3 (some .int)) (rN 2) (va_Pc [.ref (ad 0), .int (nI b), .int (nI c)] (pW D c2 (tX ca) (wX ad ca T n kc ko kv k lo hi bw bb pk))) (vp_Si (fun z => z = nI (bb (b * 4 + c)))) 0 0 (fun _ => False) := by
  refine met_of RX0 rfl (by decide) (Nat.le_of_ble_eq_true rfl) (fun p e s m below meth cd ls E hr hlk _ hB hl => ?_)
  obtain ⟨hP, hK⟩ := hB
  have hl : lv_has ls 3 [(0, .ref (ad 0)), (1, .int (nI b)), (2, .int (nI c))] := hl
  refine lv_iload_n E.1 E.2.1 dX0_bits_0 rfl (lv_at hl 2 rfl) ?_
  refine cS_v E (As := [.int (nI c)]) (rest := []) (cX_refuseBadColumn l c (by omega)) kX_60 rfl rfl ⟨Nat.le_of_ble_eq_true rfl, Nat.le_of_ble_eq_true rfl⟩ rfl hl.1 rfl (Nat.le_of_ble_eq_true rfl) dX0_bits_1 ⟨Nat.zero_le _, Nat.zero_le _⟩ ?_
  refine lv_aload_n E.1 E.2.1 dX0_bits_4 rfl (lv_at hl 0 rfl) ?_
  refine lv_iload_n E.1 E.2.1 dX0_bits_5 rfl (lv_at hl 1 rfl) ?_
  refine cV_v E (As := [.int (nI b)]) (rest := []) (cX_refuseUnpackedBlock l D ad ca T n kc ko kv k lo hi bw bb pk b (by omega) (by omega)) kX_120 hK hP 0 rfl rfl rfl rfl ⟨Nat.le_of_ble_eq_true rfl, Nat.le_of_ble_eq_true rfl⟩ rfl hl.1 rfl (Nat.le_of_ble_eq_true rfl) dX0_bits_6 ⟨Nat.zero_le _, Nat.zero_le _⟩ ?_
  refine lv_aload_n E.1 E.2.1 dX0_bits_9 rfl (lv_at hl 0 rfl) ?_
  refine n_get E inX hK hP 0 rfl rfl 9 (by decide) flX_39 rfl rfl dX0_bits_10 ?_
  refine lv_iload_n E.1 E.2.1 dX0_bits_13 rfl (lv_at hl 1 rfl) ?_
  refine lv_iload_n E.1 E.2.1 dX0_bits_14 rfl (lv_at hl 2 rfl) ?_
  refine cS_i E (As := [.int (nI b), .int (nI c)]) (rest := [.ref (ad 8)]) (cX_place l b c) kX_123 rfl rfl ⟨Nat.le_of_ble_eq_true rfl, Nat.le_of_ble_eq_true rfl⟩ rfl hl.1 rfl (Nat.le_of_ble_eq_true rfl) dX0_bits_15 ⟨Nat.zero_le _, Nat.zero_le _⟩ ?_
  refine n_iald E hK hP 8 7 rfl rfl (by decide) (by omega) dX0_bits_18 ?_
  exact e_i E hr hlk rfl dX0_bits_19
end
section
/-! Contracts of the hall: laid by program (wip/whole/gen.py). -/
set_option maxHeartbeats 4000000 in
set_option maxRecDepth 100000 in
theorem cX_append (l : Launch) (D : va_G) (ad : Nat → Nat) (ca : Nat → ClassId) (T : Nat → Nat → Int64) (n : Nat) (kc ko : Nat → Nat) (kv : Nat → Int64) (k : Nat) (lo hi : Nat → Int64) (bw bb pk : Nat → Nat) (a0 b0 c0 : Int32) (d0 : Int64) (hN : inj ad 10) (hn : n < 128) : Met l yX0_append (wA yX0_append cX0_append 7 (some .int)) (rN 4) (va_Pc [.ref (ad 0), .int a0, .int b0, .int c0, .long d0] (pW D c2 (tX ca) (wX ad ca T n kc ko kv k lo hi bw bb pk))) (qI (fun z (u : (Nat → Int64) × (Nat → Int64) × (Nat → Nat) × (Nat → Nat)) => z = nI n ∧ (∀ c, (n + 1) % 16 = 0 → c < 4 → Pk (apT T n a0 b0 c0 d0) (n / 16) c u.1 u.2.1 u.2.2.1 u.2.2.2) ∧ (∀ i, ((n + 1) % 16 ≠ 0 ∨ i < n / 16 * 4 ∨ n / 16 * 4 + 4 ≤ i) → u.1 i = lo i ∧ u.2.1 i = hi i ∧ u.2.2.1 i = bw i ∧ u.2.2.2 i = bb i)) D c2 (fun u => wX ad ca (apT T n a0 b0 c0 d0) (n + 1) kc ko kv k u.1 u.2.1 u.2.2.1 u.2.2.2 pk) (fA ad 10)) 0 0 (fA ad 10) := by
  refine met_of RX0 rfl (by decide) (Nat.le_of_ble_eq_true rfl) (fun p e s m below meth cd ls E hr hlk _ hB hl => ?_)
  obtain ⟨hP, hK⟩ := hB
  have hl : lv_has ls 7 [(0, .ref (ad 0)), (1, .int a0), (2, .int b0), (3, .int c0), (4, .long d0)] := hl
  have hS : va_S (fA ad 10) s.heap s.heap [] := va_S.rf
  refine lv_aload_n E.1 E.2.1 dX0_append_0 rfl (lv_at hl 0 rfl) ?_
  refine n_get E inX hK hP 0 rfl rfl 1 (by decide) flX_13 rfl rfl dX0_append_1 ?_
  refine lv_sipush (v := nI 128) E.1 E.2.1 dX0_append_4 rfl ?_
  refine n_icmp_lt (tgt := 20) E dX0_append_7 rfl (by omega) (by omega) (fun h7 => ?_) (fun h7 => ?_)
  · skip
    refine lv_aload_n E.1 E.2.1 dX0_append_20 rfl (lv_at hl 0 rfl) ?_
    refine n_get E inX hK hP 0 rfl rfl 1 (by decide) flX_13 rfl rfl dX0_append_21 ?_
    refine lv_istore (lv' := [(6, .int (nI n)), (0, .ref (ad 0)), (1, .int a0), (2, .int b0), (3, .int c0), (4, .long d0)]) E.1 E.2.1 dX0_append_24 hl (by decide) rfl (fun ls hl => ?_)
    refine lv_aload_n E.1 E.2.1 dX0_append_26 rfl (lv_at hl 1 rfl) ?_
    refine n_get E inX hK hP 0 rfl rfl 0 (by decide) flX_9 rfl rfl dX0_append_27 ?_
    refine lv_iload E.1 E.2.1 dX0_append_30 (lv_at hl 0 rfl) ?_
    refine lv_iconst (v := nI 0) E.1 E.2.1 dX0_append_32 rfl ?_
    refine cS_i E (As := [.int (nI n), .int (nI 0)]) (rest := [.ref (ad 1)]) (cX_spot l n 0) kX_52 rfl rfl ⟨Nat.le_of_ble_eq_true rfl, Nat.le_of_ble_eq_true rfl⟩ rfl hl.1 rfl (Nat.le_of_ble_eq_true rfl) dX0_append_33 ⟨Nat.zero_le _, Nat.zero_le _⟩ ?_
    refine lv_iload_n E.1 E.2.1 dX0_append_36 rfl (lv_at hl 2 rfl) ?_
    refine lv_i2l E.1 E.2.1 dX0_append_37 rfl ?_
    refine n_cast E hK hP (dW hN rfl) hS 1 0 rfl rfl n 0 (by omega) (by omega) (by omega) dX0_append_38 (fun H locs hP hS => ?_)
    have hP : va_P D c2 (wX ad ca (tS T n 0 (Int32.toInt64 a0)) n kc ko kv k lo hi bw bb pk) H := hP
    refine lv_aload_n E.1 E.2.1 dX0_append_39 rfl (lv_at hl 1 rfl) ?_
    refine n_get E inX hK hP 0 rfl rfl 0 (by decide) flX_9 rfl rfl dX0_append_40 ?_
    refine lv_iload E.1 E.2.1 dX0_append_43 (lv_at hl 0 rfl) ?_
    refine lv_iconst (v := nI 1) E.1 E.2.1 dX0_append_45 rfl ?_
    refine cS_i E (As := [.int (nI n), .int (nI 1)]) (rest := [.ref (ad 1)]) (cX_spot l n 1) kX_52 rfl rfl ⟨Nat.le_of_ble_eq_true rfl, Nat.le_of_ble_eq_true rfl⟩ rfl hl.1 rfl (Nat.le_of_ble_eq_true rfl) dX0_append_46 ⟨Nat.zero_le _, Nat.zero_le _⟩ ?_
    refine lv_iload_n E.1 E.2.1 dX0_append_49 rfl (lv_at hl 3 rfl) ?_
    refine lv_i2l E.1 E.2.1 dX0_append_50 rfl ?_
    refine n_cast E hK hP (dW hN rfl) hS 1 0 rfl rfl n 1 (by omega) (by omega) (by omega) dX0_append_51 (fun H locs hP hS => ?_)
    have hP : va_P D c2 (wX ad ca (tS (tS T n 0 (Int32.toInt64 a0)) n 1 (Int32.toInt64 b0)) n kc ko kv k lo hi bw bb pk) H := hP
    refine lv_aload_n E.1 E.2.1 dX0_append_52 rfl (lv_at hl 1 rfl) ?_
    refine n_get E inX hK hP 0 rfl rfl 0 (by decide) flX_9 rfl rfl dX0_append_53 ?_
    refine lv_iload E.1 E.2.1 dX0_append_56 (lv_at hl 0 rfl) ?_
    refine lv_iconst (v := nI 2) E.1 E.2.1 dX0_append_58 rfl ?_
    refine cS_i E (As := [.int (nI n), .int (nI 2)]) (rest := [.ref (ad 1)]) (cX_spot l n 2) kX_52 rfl rfl ⟨Nat.le_of_ble_eq_true rfl, Nat.le_of_ble_eq_true rfl⟩ rfl hl.1 rfl (Nat.le_of_ble_eq_true rfl) dX0_append_59 ⟨Nat.zero_le _, Nat.zero_le _⟩ ?_
    refine lv_iload_n E.1 E.2.1 dX0_append_62 rfl (lv_at hl 4 rfl) ?_
    refine lv_i2l E.1 E.2.1 dX0_append_63 rfl ?_
    refine n_cast E hK hP (dW hN rfl) hS 1 0 rfl rfl n 2 (by omega) (by omega) (by omega) dX0_append_64 (fun H locs hP hS => ?_)
    have hP : va_P D c2 (wX ad ca (tS (tS (tS T n 0 (Int32.toInt64 a0)) n 1 (Int32.toInt64 b0)) n 2 (Int32.toInt64 c0)) n kc ko kv k lo hi bw bb pk) H := hP
    refine lv_aload_n E.1 E.2.1 dX0_append_65 rfl (lv_at hl 1 rfl) ?_
    refine n_get E inX hK hP 0 rfl rfl 0 (by decide) flX_9 rfl rfl dX0_append_66 ?_
    refine lv_iload E.1 E.2.1 dX0_append_69 (lv_at hl 0 rfl) ?_
    refine lv_iconst (v := nI 3) E.1 E.2.1 dX0_append_71 rfl ?_
    refine cS_i E (As := [.int (nI n), .int (nI 3)]) (rest := [.ref (ad 1)]) (cX_spot l n 3) kX_52 rfl rfl ⟨Nat.le_of_ble_eq_true rfl, Nat.le_of_ble_eq_true rfl⟩ rfl hl.1 rfl (Nat.le_of_ble_eq_true rfl) dX0_append_72 ⟨Nat.zero_le _, Nat.zero_le _⟩ ?_
    refine lv_lload E.1 E.2.1 dX0_append_75 (lv_at hl 5 rfl) ?_
    refine n_cast E hK hP (dW hN rfl) hS 1 0 rfl rfl n 3 (by omega) (by omega) (by omega) dX0_append_77 (fun H locs hP hS => ?_)
    have hP : va_P D c2 (wX ad ca (tS (tS (tS (tS T n 0 (Int32.toInt64 a0)) n 1 (Int32.toInt64 b0)) n 2 (Int32.toInt64 c0)) n 3 d0) n kc ko kv k lo hi bw bb pk) H := hP
    refine lv_aload_n E.1 E.2.1 dX0_append_78 rfl (lv_at hl 1 rfl) ?_
    refine lv_iload E.1 E.2.1 dX0_append_79 (lv_at hl 0 rfl) ?_
    refine lv_iconst (v := nI 1) E.1 E.2.1 dX0_append_81 rfl ?_
    refine n_iadd E dX0_append_82 ?_
    refine n_put E inX tyX0 tyX0_ok nmX0 hK hP (dW hN rfl) hS 0 rfl rfl 1 (by decide) flX_13 rfl rfl (tyX0_ok 1 (by decide)) (Nat.le_of_ble_eq_true rfl) dX0_append_83 (fun H locs hP hS => ?_)
    have hP : va_P D c2 (wX ad ca (tS (tS (tS (tS T n 0 (Int32.toInt64 a0)) n 1 (Int32.toInt64 b0)) n 2 (Int32.toInt64 c0)) n 3 d0) (n + 1) kc ko kv k lo hi bw bb pk) H := hP
    refine lv_aload_n E.1 E.2.1 dX0_append_86 rfl (lv_at hl 1 rfl) ?_
    refine n_get E inX hK hP 0 rfl rfl 1 (by decide) flX_13 rfl rfl dX0_append_87 ?_
    refine lv_bipush (v := nI 16) E.1 E.2.1 dX0_append_90 rfl ?_
    refine n_irem E (by omega) (by omega) (by omega) dX0_append_92 ?_
    refine n_if_ne (tgt := 105) E dX0_append_93 rfl (by omega) (fun h93 => ?_) (fun h93 => ?_)
    · skip
      refine lv_iload E.1 E.2.1 dX0_append_105 (lv_at hl 0 rfl) ?_
      exact e_wi E hr hlk hS (lo, hi, bw, bb) (⟨rfl, fun c h => absurd h h93, fun i _ => ⟨rfl, rfl, rfl, rfl⟩⟩) hP dX0_append_107
    · skip
      refine lv_aload_n E.1 E.2.1 dX0_append_96 rfl (lv_at hl 1 rfl) ?_
      refine lv_iload E.1 E.2.1 dX0_append_97 (lv_at hl 0 rfl) ?_
      refine lv_bipush (v := nI 16) E.1 E.2.1 dX0_append_99 rfl ?_
      refine n_idiv E (by omega) (by omega) (by omega) dX0_append_101 ?_
      refine cV_wv E (As := [.int (nI (n / 16))]) (rest := []) (cX_packBlock l D ad ca (tS (tS (tS (tS T n 0 (Int32.toInt64 a0)) n 1 (Int32.toInt64 b0)) n 2 (Int32.toInt64 c0)) n 3 d0) (n + 1) kc ko kv k lo hi bw bb pk (n / 16) hN (by omega)) kX_56 hK hP hS (fun _ h => h) 0 rfl rfl rfl rfl ⟨Nat.le_of_ble_eq_true rfl, Nat.le_of_ble_eq_true rfl⟩ rfl hl.1 rfl (Nat.le_of_ble_eq_true rfl) dX0_append_102 ⟨Nat.zero_le _, Nat.zero_le _⟩ (fun u102 H locs hp102 hP _ _ hS => ?_)
      have hP : va_P D c2 (wX ad ca (tS (tS (tS (tS T n 0 (Int32.toInt64 a0)) n 1 (Int32.toInt64 b0)) n 2 (Int32.toInt64 c0)) n 3 d0) (n + 1) kc ko kv k u102.1 u102.2.1 u102.2.2.1 u102.2.2.2 pk) H := hP
      refine lv_iload E.1 E.2.1 dX0_append_105 (lv_at hl 0 rfl) ?_
      exact e_wi E hr hlk hS u102 (⟨rfl, fun c _ hc => hp102.1 c hc, fun i hi => hp102.2 i (by omega)⟩) hP dX0_append_107
  · skip
    exfalso; omega
set_option maxHeartbeats 4000000 in
set_option maxRecDepth 100000 in
theorem cX_purge (l : Launch) (D : va_G) (ad : Nat → Nat) (ca : Nat → ClassId) (T : Nat → Nat → Int64) (n : Nat) (kc ko : Nat → Nat) (kv : Nat → Int64) (k : Nat) (lo hi : Nat → Int64) (bw bb pk : Nat → Nat)  (hIK : iK kc ko k) (hN : inj ad 10) (hn128 : n ≤ 128) (hiB : iB T n lo hi) : Met l yX0_purge (wA yX0_purge cX0_purge 5 (some .int)) (rN 5) (va_Pc [.ref (ad 0)] (pW D c2 (tX ca) (wX ad ca T n kc ko kv k lo hi bw bb pk))) (qI (fun z (u : (Nat → Int64) × (Nat → Int64) × (Nat → Nat) × (Nat → Nat) × (Nat → Nat)) => z = nI (ct (ch T kc ko kv k) n) ∧ (∀ b c, b < (n - ct (ch T kc ko kv k) n) / 16 → c < 4 → Pk (pT (ch T kc ko kv k) T n) b c u.1 u.2.1 u.2.2.1 u.2.2.2.1)) D c2 (fun u => wX ad ca (pT (ch T kc ko kv k) T n) (n - ct (ch T kc ko kv k) n) kc ko kv k u.1 u.2.1 u.2.2.1 u.2.2.2.1 u.2.2.2.2) (fA ad 10)) 0 0 (fA ad 10) := by
  refine met_of RX0 rfl (by decide) (Nat.le_of_ble_eq_true rfl) (fun p e s m below meth cd ls E hr hlk _ hB hl => ?_)
  obtain ⟨hP, hK⟩ := hB
  have hl : lv_has ls 5 [(0, .ref (ad 0))] := hl
  have hS : va_S (fA ad 10) s.heap s.heap [] := va_S.rf
  refine lv_aload_n E.1 E.2.1 dX0_purge_0 rfl (lv_at hl 0 rfl) ?_
  refine cV_wi E (As := []) (rest := []) (cX_pick l D ad ca T n kc ko kv k lo hi bw bb pk hIK hN hn128 hiB) kX_75 hK hP hS (fun _ h => h) 0 rfl rfl rfl rfl ⟨Nat.le_of_ble_eq_true rfl, Nat.le_of_ble_eq_true rfl⟩ rfl hl.1 rfl (Nat.le_of_ble_eq_true rfl) dX0_purge_1 ⟨Nat.zero_le _, Nat.zero_le _⟩ (fun z1 u1 H locs hp1 hP _ _ hS => ?_)
  obtain ⟨hz1, hE1⟩ := hp1
  subst hz1
  have hP : va_P D c2 (wX ad ca T n kc ko kv k lo hi bw bb u1) H := hP
  have hct := ct_le (ch T kc ko kv k) n
  refine lv_istore_n (lv' := [(1, .int (nI (ct (ch T kc ko kv k) n))), (0, .ref (ad 0))]) E.1 E.2.1 dX0_purge_4 rfl hl (by decide) rfl (fun ls hl => ?_)
  refine lv_iconst (v := nI 0) E.1 E.2.1 dX0_purge_5 rfl ?_
  refine lv_istore_n (lv' := [(2, .int (nI 0)), (1, .int (nI (ct (ch T kc ko kv k) n))), (0, .ref (ad 0))]) E.1 E.2.1 dX0_purge_6 rfl hl (by decide) rfl (fun ls hl => ?_)
  refine lv_iconst (v := nI 0) E.1 E.2.1 dX0_purge_7 rfl ?_
  refine lv_istore_n (lv' := [(3, .int (nI 0)), (2, .int (nI 0)), (1, .int (nI (ct (ch T kc ko kv k) n))), (0, .ref (ad 0))]) E.1 E.2.1 dX0_purge_8 rfl hl (by decide) rfl (fun ls hl => ?_)
  refine lv_iconst (v := nI 0) E.1 E.2.1 dX0_purge_9 rfl ?_
  refine lv_istore (lv' := [(4, .int (nI 0)), (3, .int (nI 0)), (2, .int (nI 0)), (1, .int (nI (ct (ch T kc ko kv k) n))), (0, .ref (ad 0))]) E.1 E.2.1 dX0_purge_10 hl (by decide) rfl (fun ls hl => ?_)
  refine w_lq1 (fun (r : Nat) => r ≤ n) (fun (r : Nat) => n - r) (fun (r : Nat) => [(4, .int (nI r)), (3, .int (nI (ct (ch T kc ko kv k) r))), (2, .int (nI (r - ct (ch T kc ko kv k) r))), (0, .ref (ad 0)), (1, .int (nI (ct (ch T kc ko kv k) n)))]) (fun (r : Nat) H locs => va_P D c2 (wX ad ca (pT (ch T kc ko kv k) T r) n kc ko kv k lo hi bw bb u1) H ∧ va_S (fA ad 10) s.heap H locs) 0 (Nat.zero_le _) ⟨hP, hS⟩ (lv_sub hl [0, 1, 2, 4, 3] rfl) (fun r ls H locs hI hB hl ih12 => ?_)
  obtain ⟨hP, hS⟩ := hB
  have hl : lv_has ls 5 [(4, .int (nI r)), (3, .int (nI (ct (ch T kc ko kv k) r))), (2, .int (nI (r - ct (ch T kc ko kv k) r))), (0, .ref (ad 0)), (1, .int (nI (ct (ch T kc ko kv k) n)))] := hl
  have hP : va_P D c2 (wX ad ca (pT (ch T kc ko kv k) T r) n kc ko kv k lo hi bw bb u1) H := hP
  refine lv_iload E.1 E.2.1 dX0_purge_12 (lv_at hl 0 rfl) ?_
  refine lv_aload_n E.1 E.2.1 dX0_purge_14 rfl (lv_at hl 3 rfl) ?_
  refine n_get E inX hK hP 0 rfl rfl 1 (by decide) flX_13 rfl rfl dX0_purge_15 ?_
  have hctr := ct_le (ch T kc ko kv k) r
  refine n_icmp_ge (tgt := 59) E dX0_purge_18 rfl (by omega) (by omega) (fun h18 => ?_) (fun h18 => ?_)
  · skip
    refine lv_aload_n E.1 E.2.1 dX0_purge_59 rfl (lv_at hl 3 rfl) ?_
    refine lv_iload_n E.1 E.2.1 dX0_purge_60 rfl (lv_at hl 2 rfl) ?_
    refine n_put E inX tyX0 tyX0_ok nmX0 hK hP (dW hN rfl) hS 0 rfl rfl 1 (by decide) flX_13 rfl rfl (tyX0_ok 1 (by decide)) (Nat.le_of_ble_eq_true rfl) dX0_purge_61 (fun H locs hP hS => ?_)
    have hP : va_P D c2 (wX ad ca (pT (ch T kc ko kv k) T r) (r - ct (ch T kc ko kv k) r) kc ko kv k lo hi bw bb u1) H := hP
    refine lv_aload_n E.1 E.2.1 dX0_purge_64 rfl (lv_at hl 3 rfl) ?_
    refine cV_wv E (As := []) (rest := []) (cX_packFullBlocks l D ad ca (pT (ch T kc ko kv k) T r) (r - ct (ch T kc ko kv k) r) kc ko kv k lo hi bw bb u1 hN (by omega)) kX_130 hK hP hS (fun _ h => h) 0 rfl rfl rfl rfl ⟨Nat.le_of_ble_eq_true rfl, Nat.le_of_ble_eq_true rfl⟩ rfl hl.1 rfl (Nat.le_of_ble_eq_true rfl) dX0_purge_65 ⟨Nat.zero_le _, Nat.zero_le _⟩ (fun u65 H locs hp65 hP _ _ hS => ?_)
    have hP : va_P D c2 (wX ad ca (pT (ch T kc ko kv k) T r) (r - ct (ch T kc ko kv k) r) kc ko kv k u65.1 u65.2.1 u65.2.2.1 u65.2.2.2 u1) H := hP
    refine lv_iload_n E.1 E.2.1 dX0_purge_68 rfl (lv_at hl 4 rfl) ?_
    exact e_wi E hr hlk hS (u65.1, u65.2.1, u65.2.2.1, u65.2.2.2, u1) (⟨rfl, by rw [show n = r by omega]; exact hp65⟩) (by rw [show n = r by omega]; exact hP) dX0_purge_69
  · skip
    refine lv_iload_n E.1 E.2.1 dX0_purge_21 rfl (lv_at hl 1 rfl) ?_
    refine lv_iload_n E.1 E.2.1 dX0_purge_22 rfl (lv_at hl 4 rfl) ?_
    refine n_icmp_ge (tgt := 43) E dX0_purge_23 rfl (by omega) (by omega) (fun h23 => ?_) (fun h23 => ?_)
    · skip
      refine lv_aload_n E.1 E.2.1 dX0_purge_43 rfl (lv_at hl 3 rfl) ?_
      refine lv_iload E.1 E.2.1 dX0_purge_44 (lv_at hl 0 rfl) ?_
      refine lv_iload_n E.1 E.2.1 dX0_purge_46 rfl (lv_at hl 2 rfl) ?_
      refine cV_wv E (As := [.int (nI r), .int (nI (r - ct (ch T kc ko kv k) r))]) (rest := []) (cX_moveRow l D ad ca (pT (ch T kc ko kv k) T r) n kc ko kv k lo hi bw bb u1 r (r - ct (ch T kc ko kv k) r) hN (by omega) (by omega)) kX_126 hK hP hS (fun _ h => h) 0 rfl rfl rfl rfl ⟨Nat.le_of_ble_eq_true rfl, Nat.le_of_ble_eq_true rfl⟩ rfl hl.1 rfl (Nat.le_of_ble_eq_true rfl) dX0_purge_47 ⟨Nat.zero_le _, Nat.zero_le _⟩ (fun u47 H locs hp47 hP _ _ hS => ?_)
      have hP : va_P D c2 (wX ad ca (mvR (pT (ch T kc ko kv k) T r) r (r - ct (ch T kc ko kv k) r) 4) n kc ko kv k lo hi bw bb u1) H := hP
      refine lv_iinc (k := 2) (v := nI (r - ct (ch T kc ko kv k) r + 1)) (lv' := [(2, .int (nI (r - ct (ch T kc ko kv k) r + 1))), (4, .int (nI r)), (3, .int (nI (ct (ch T kc ko kv k) r))), (0, .ref (ad 0)), (1, .int (nI (ct (ch T kc ko kv k) n)))]) E.1 E.2.1 dX0_purge_50 hl rfl (inc1 _) (by decide) rfl (fun ls hl => ?_)
      refine lv_iinc (k := 1) (v := nI (r + 1)) (lv' := [(4, .int (nI (r + 1))), (2, .int (nI (r - ct (ch T kc ko kv k) r + 1))), (3, .int (nI (ct (ch T kc ko kv k) r))), (0, .ref (ad 0)), (1, .int (nI (ct (ch T kc ko kv k) n)))]) E.1 E.2.1 dX0_purge_53 hl rfl (inc1 _) (by decide) rfl (fun ls hl => ?_)
      refine lv_goto (tgt := 12) E.1 E.2.1 dX0_purge_56 rfl ?_
      have hPr : (ch T kc ko kv k) r = false := pu_f1 hE1 h18 h23
      rw [← pT_f hPr] at hP
      rw [show r - ct (ch T kc ko kv k) r + 1 = r + 1 - ct (ch T kc ko kv k) (r + 1) by rw [ct_f hPr]; omega, ← ct_f hPr] at hl
      exact ih12 (r + 1) _ _ _ (by omega) (by omega) ⟨hP, hS⟩ (lv_sub hl [0, 2, 1, 3, 4] rfl)
    · skip
      refine lv_aload_n E.1 E.2.1 dX0_purge_26 rfl (lv_at hl 3 rfl) ?_
      refine n_get E inX hK hP 0 rfl rfl 10 (by decide) flX_42 rfl rfl dX0_purge_27 ?_
      refine lv_iload_n E.1 E.2.1 dX0_purge_30 rfl (lv_at hl 1 rfl) ?_
      have hqi := (en_inv hE1 (ct (ch T kc ko kv k) r) h23).1
      refine n_iald E hK hP 9 8 rfl rfl (by decide) (by omega) dX0_purge_31 ?_
      refine lv_iload E.1 E.2.1 dX0_purge_32 (lv_at hl 0 rfl) ?_
      refine n_icmp_ne (tgt := 43) E dX0_purge_34 rfl (by omega) (by omega) (fun h34 => ?_) (fun h34 => ?_)
      · skip
        refine lv_aload_n E.1 E.2.1 dX0_purge_43 rfl (lv_at hl 3 rfl) ?_
        refine lv_iload E.1 E.2.1 dX0_purge_44 (lv_at hl 0 rfl) ?_
        refine lv_iload_n E.1 E.2.1 dX0_purge_46 rfl (lv_at hl 2 rfl) ?_
        refine cV_wv E (As := [.int (nI r), .int (nI (r - ct (ch T kc ko kv k) r))]) (rest := []) (cX_moveRow l D ad ca (pT (ch T kc ko kv k) T r) n kc ko kv k lo hi bw bb u1 r (r - ct (ch T kc ko kv k) r) hN (by omega) (by omega)) kX_126 hK hP hS (fun _ h => h) 0 rfl rfl rfl rfl ⟨Nat.le_of_ble_eq_true rfl, Nat.le_of_ble_eq_true rfl⟩ rfl hl.1 rfl (Nat.le_of_ble_eq_true rfl) dX0_purge_47 ⟨Nat.zero_le _, Nat.zero_le _⟩ (fun u47 H locs hp47 hP _ _ hS => ?_)
        have hP : va_P D c2 (wX ad ca (mvR (pT (ch T kc ko kv k) T r) r (r - ct (ch T kc ko kv k) r) 4) n kc ko kv k lo hi bw bb u1) H := hP
        refine lv_iinc (k := 2) (v := nI (r - ct (ch T kc ko kv k) r + 1)) (lv' := [(2, .int (nI (r - ct (ch T kc ko kv k) r + 1))), (4, .int (nI r)), (3, .int (nI (ct (ch T kc ko kv k) r))), (0, .ref (ad 0)), (1, .int (nI (ct (ch T kc ko kv k) n)))]) E.1 E.2.1 dX0_purge_50 hl rfl (inc1 _) (by decide) rfl (fun ls hl => ?_)
        refine lv_iinc (k := 1) (v := nI (r + 1)) (lv' := [(4, .int (nI (r + 1))), (2, .int (nI (r - ct (ch T kc ko kv k) r + 1))), (3, .int (nI (ct (ch T kc ko kv k) r))), (0, .ref (ad 0)), (1, .int (nI (ct (ch T kc ko kv k) n)))]) E.1 E.2.1 dX0_purge_53 hl rfl (inc1 _) (by decide) rfl (fun ls hl => ?_)
        refine lv_goto (tgt := 12) E.1 E.2.1 dX0_purge_56 rfl ?_
        have hPr : (ch T kc ko kv k) r = false := pu_f2 hE1 h18 h34
        rw [← pT_f hPr] at hP
        rw [show r - ct (ch T kc ko kv k) r + 1 = r + 1 - ct (ch T kc ko kv k) (r + 1) by rw [ct_f hPr]; omega, ← ct_f hPr] at hl
        exact ih12 (r + 1) _ _ _ (by omega) (by omega) ⟨hP, hS⟩ (lv_sub hl [0, 2, 1, 3, 4] rfl)
      · skip
        refine lv_iinc (k := 1) (v := nI (ct (ch T kc ko kv k) r + 1)) (lv' := [(3, .int (nI (ct (ch T kc ko kv k) r + 1))), (4, .int (nI r)), (2, .int (nI (r - ct (ch T kc ko kv k) r))), (0, .ref (ad 0)), (1, .int (nI (ct (ch T kc ko kv k) n)))]) E.1 E.2.1 dX0_purge_37 hl rfl (inc1 _) (by decide) rfl (fun ls hl => ?_)
        refine lv_goto (tgt := 53) E.1 E.2.1 dX0_purge_40 rfl ?_
        refine lv_iinc (k := 1) (v := nI (r + 1)) (lv' := [(4, .int (nI (r + 1))), (3, .int (nI (ct (ch T kc ko kv k) r + 1))), (2, .int (nI (r - ct (ch T kc ko kv k) r))), (0, .ref (ad 0)), (1, .int (nI (ct (ch T kc ko kv k) n)))]) E.1 E.2.1 dX0_purge_53 hl rfl (inc1 _) (by decide) rfl (fun ls hl => ?_)
        refine lv_goto (tgt := 12) E.1 E.2.1 dX0_purge_56 rfl ?_
        have hPr : (ch T kc ko kv k) r = true := pu_t hE1 h23 h34
        rw [← pT_t hPr] at hP
        rw [← ct_t hPr, show r - ct (ch T kc ko kv k) r = r + 1 - ct (ch T kc ko kv k) (r + 1) by rw [ct_t hPr]; omega] at hl
        exact ih12 (r + 1) _ _ _ (by omega) (by omega) ⟨hP, hS⟩ (lv_sub hl [0, 1, 2, 3, 4] rfl)
end
